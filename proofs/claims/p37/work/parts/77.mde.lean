set_option maxRecDepth 100000 in
set_option maxHeartbeats 4000000 in
theorem wq_md_tongue_B23 (n : Nat) (hn : 4294967297 < n) (x1 : Int32) (y1 : Int32) (σ : wt_St) (r0 : wt_RI σ) (p0 : y1.toInt ≠ 0 ∨ (0 ≤ x1.toInt ∧ x1.toInt ≤ 500)) : wt_T (wp_md_tongue_B23 n x1 y1 σ) (fun q => wt_fr (fun i k => (i = 108 ∧ k = 0) ∨ (i = 108 ∧ k = 1) ∨ (i = 108 ∧ k = 2) ∨ (i = 108 ∧ k = 4) ∨ (i = 108 ∧ k = 5) ∨ (i = 108 ∧ k = 6) ∨ (i = 108 ∧ k = 7) ∨ (i = 108 ∧ k = 27) ∨ (i = 108 ∧ k = 29) ∨ (i = 108 ∧ k = 3) ∨ (i = 108 ∧ k = 28) ∨ (i = 108 ∧ k = 30) ∨ (i = 108 ∧ k = 39) ∨ (i = 108 ∧ k = 40) ∨ (i = 108 ∧ k = 41)) (fun i => i = 275 ∨ i = 124 ∨ i = 126 ∨ i = 128 ∨ i = 130 ∨ (193 ≤ i ∧ i < 253) ∨ i = 125 ∨ i = 127 ∨ i = 129 ∨ (132 ≤ i ∧ i < 192)) σ q.2 ∧ wt_RI q.2 ∧ ((y1.toInt ≠ 0 → (wt_gf q.2 108 1).toInt = (wt_gf σ 108 1).toInt) ∧ (y1.toInt = 0 ∧ (wt_gf σ 108 0).toInt = 0 → (wt_gf q.2 108 1).toInt = 0))) := by
  have bb1 := wt_bd x1
  have bb2 := wt_bd y1
  unfold wp_md_tongue_B23
  have k3 : (1 : Int32).toInt = 1 := by decide
  refine wt_T_bi (wq_md_bad n hn y1 (1 : Int32) σ r0 (by first | with_reducible assumption | omega)) (fun r4 h5 => ?_)
  obtain ⟨f6, ri7, pp8⟩ := h5
  have bb9 := wt_bd r4.1
  have bb10 := wt_bd (wt_gf r4.2 108 0)
  have bb11 := wt_bd (wt_gf σ 108 0)
  have k12 : (0 : Int32).toInt = 0 := by decide
  refine wt_T_if (fun h13 => ?_) (fun h13 => ?_)
  · skip
    have c14 := wt_ceq h13
    refine wt_T_bi (wq_md_starts n hn x1 r4.2 ri7 (by first | with_reducible assumption | omega) (by first | with_reducible assumption | omega)) (fun r15 h16 => ?_)
    obtain ⟨f17, ri18, pp19⟩ := h16
    have g21 : 0 ≤ (wt_gf r15 108 1).toInt ∧ (wt_gf r15 108 1).toInt ≤ 500 := wt_Rf0 ri18
    have g23 : 0 ≤ (wt_gf r15 108 5).toInt ∧ (wt_gf r15 108 5).toInt ≤ 3 := wt_Rf3 ri18
    have g25 : 0 ≤ (wt_gf r15 108 7).toInt ∧ (wt_gf r15 108 7).toInt ≤ 60 := wt_Rf4 ri18
    obtain ⟨σ26, eσ26⟩ : ∃ z : wt_St, z = wt_sf r15 108 27 (0 : Int32) := ⟨_, rfl⟩
    rw [← eσ26]
    have fσ26 := wt_fr_sf eσ26
    have vσ26 := wt_ceq (wt_v_sf eσ26)
    have rσ26 := wt_Rm5 ri18 eσ26 (show 0 ≤ ((0 : Int32)).toInt by omega) (show ((0 : Int32)).toInt ≤ 60 by omega)
    obtain ⟨σ27, eσ27⟩ : ∃ z : wt_St, z = wt_sf σ26 108 29 (0 : Int32) := ⟨_, rfl⟩
    rw [← eσ27]
    have fσ27 := wt_fr_sf eσ27
    have vσ27 := wt_ceq (wt_v_sf eσ27)
    have rσ27 := wt_RI_fno rσ26 eσ27 (Or.inr (by decide +kernel))
    refine wt_T_it (fun s : wt_St => wt_fr (fun i k => (i = 108 ∧ k = 4) ∨ (i = 108 ∧ k = 5) ∨ (i = 108 ∧ k = 6) ∨ (i = 108 ∧ k = 29) ∨ (i = 108 ∧ k = 27)) (fun i => i = 125 ∨ i = 127 ∨ i = 129 ∨ (132 ≤ i ∧ i < 192)) σ27 s ∧ wt_RI s) (fun s : wt_St => (4 * (60 - (wt_gf s 108 27).toInt) + 3 - (wt_gf s 108 5).toInt).toNat) (fun KK28 z29 I30 hKK28 => ?_) _ _ ?_ ?_
    · skip
      obtain ⟨l31, l32⟩ := I30
      unfold wp_md_tongue_B47
      have g34 : 0 ≤ (wt_gf z29 108 27).toInt ∧ (wt_gf z29 108 27).toInt ≤ 60 := wt_Rf5 l32
      have g36 : 0 ≤ (wt_gf z29 108 5).toInt ∧ (wt_gf z29 108 5).toInt ≤ 3 := wt_Rf3 l32
      refine wt_T_if (fun h37 => ?_) (fun h37 => ?_)
      · skip
        have c38 := wt_ceq h37
        have g40 : 0 ≤ (wt_gf z29 108 2).toInt ∧ (wt_gf z29 108 2).toInt ≤ 500 := wt_Rf1 l32
        have tt41 : (wt_gf z29 108 2).toInt = (wt_gf σ27 108 2).toInt := congrArg Int32.toInt (l31.1 108 2 (by (try dsimp only); omega))
        have tt44 : (wt_gf σ27 108 2).toInt = (wt_gf σ26 108 2).toInt := congrArg Int32.toInt (fσ27.1 108 2 (by (try dsimp only); omega))
        have tt47 : (wt_gf σ26 108 2).toInt = (wt_gf r15 108 2).toInt := congrArg Int32.toInt (fσ26.1 108 2 (by (try dsimp only); omega))
        have g51 : 0 ≤ (wt_gf z29 108 4).toInt ∧ (wt_gf z29 108 4).toInt ≤ 500 := wt_Rf2 l32
        refine wt_T_if (fun h52 => ?_) (fun h52 => ?_)
        · skip
          have c53 := wt_cle h52
          unfold wp_md_tongue_B134
          obtain ⟨σ54, eσ54⟩ : ∃ z : wt_St, z = wt_sf z29 108 3 (wt_gf z29 108 6) := ⟨_, rfl⟩
          rw [← eσ54]
          have fσ54 := wt_fr_sf eσ54
          have vσ54 := wt_ceq (wt_v_sf eσ54)
          have bb55 := wt_bd (wt_gf z29 108 6)
          have rσ54 := wt_RI_fno l32 eσ54 (Or.inr (by decide +kernel))
          have g57 : 0 ≤ (wt_gf σ54 108 5).toInt ∧ (wt_gf σ54 108 5).toInt ≤ 3 := wt_Rf3 rσ54
          have tt58 : (wt_gf σ54 108 5).toInt = (wt_gf z29 108 5).toInt := congrArg Int32.toInt (fσ54.1 108 5 (by (try dsimp only); omega))
          refine wt_T_if (fun h59 => ?_) (fun h59 => ?_)
          · skip
            have c60 := wt_ceq h59
            obtain ⟨σ61, eσ61⟩ : ∃ z : wt_St, z = wt_sf σ54 108 28 (wt_gf σ54 108 27) := ⟨_, rfl⟩
            rw [← eσ61]
            have fσ61 := wt_fr_sf eσ61
            have vσ61 := wt_ceq (wt_v_sf eσ61)
            have g63 : 0 ≤ (wt_gf σ54 108 27).toInt ∧ (wt_gf σ54 108 27).toInt ≤ 60 := wt_Rf5 rσ54
            have tt64 : (wt_gf σ54 108 27).toInt = (wt_gf z29 108 27).toInt := congrArg Int32.toInt (fσ54.1 108 27 (by (try dsimp only); omega))
            have rσ61 := wt_Rm6 rσ54 eσ61 (show 0 ≤ (wt_gf σ54 108 27).toInt by omega) (show (wt_gf σ54 108 27).toInt ≤ 60 by omega)
            obtain ⟨σ65, eσ65⟩ : ∃ z : wt_St, z = wt_sf σ61 108 30 (wt_gf σ61 108 29) := ⟨_, rfl⟩
            rw [← eσ65]
            have fσ65 := wt_fr_sf eσ65
            have vσ65 := wt_ceq (wt_v_sf eσ65)
            have bb66 := wt_bd (wt_gf σ61 108 29)
            have tt67 : (wt_gf σ61 108 29).toInt = (wt_gf σ54 108 29).toInt := congrArg Int32.toInt (fσ61.1 108 29 (by (try dsimp only); omega))
            have bb68 := wt_bd (wt_gf σ54 108 29)
            have tt69 : (wt_gf σ54 108 29).toInt = (wt_gf z29 108 29).toInt := congrArg Int32.toInt (fσ54.1 108 29 (by (try dsimp only); omega))
            have bb70 := wt_bd (wt_gf z29 108 29)
            have rσ65 := wt_RI_fno rσ61 eσ65 (Or.inr (by decide +kernel))
            refine wt_T_it (fun s : Int32 × wt_St => wt_fr (fun i k => False) (fun i => i = 126 ∨ i = 128 ∨ i = 130 ∨ (193 ≤ i ∧ i < 253)) σ65 s.2 ∧ 0 ≤ (s.1).toInt ∧ wt_RI s.2) (fun s : Int32 × wt_St => ((wt_gf s.2 108 28).toInt - s.1.toInt + 0).toNat) (fun KK71 z72 I73 hKK71 => ?_) _ _ ?_ ?_
            · skip
              obtain ⟨l74, l75, l76⟩ := I73
              unfold wp_md_tongue_B175
              have g78 : 0 ≤ (wt_gf z72.2 108 28).toInt ∧ (wt_gf z72.2 108 28).toInt ≤ 60 := wt_Rf6 l76
              have tt79 : (wt_gf z72.2 108 28).toInt = (wt_gf σ65 108 28).toInt := congrArg Int32.toInt (l74.1 108 28 (fun z => z))
              have tt82 : (wt_gf σ65 108 28).toInt = (wt_gf σ61 108 28).toInt := congrArg Int32.toInt (fσ65.1 108 28 (by (try dsimp only); omega))
              have bb85 := wt_bd z72.1
              refine wt_T_if (fun h86 => ?_) (fun h86 => ?_)
              · skip
                have c87 := wt_cle h86
                obtain ⟨σ88, eσ88⟩ : ∃ z : wt_St, z = wt_sf z72.2 108 39 (0 : Int32) := ⟨_, rfl⟩
                rw [← eσ88]
                have fσ88 := wt_fr_sf eσ88
                have vσ88 := wt_ceq (wt_v_sf eσ88)
                have rσ88 := wt_Rm7 l76 eσ88 (show 0 ≤ ((0 : Int32)).toInt by omega) (show ((0 : Int32)).toInt ≤ 8 by omega)
                obtain ⟨σ89, eσ89⟩ : ∃ z : wt_St, z = wt_sf σ88 108 40 (0 : Int32) := ⟨_, rfl⟩
                rw [← eσ89]
                have fσ89 := wt_fr_sf eσ89
                have vσ89 := wt_ceq (wt_v_sf eσ89)
                have rσ89 := wt_Rm8 rσ88 eσ89 (show 0 ≤ ((0 : Int32)).toInt by omega) (show ((0 : Int32)).toInt ≤ 10 by omega)
                obtain ⟨σ90, eσ90⟩ : ∃ z : wt_St, z = wt_sf σ89 108 41 (0 : Int32) := ⟨_, rfl⟩
                rw [← eσ90]
                have fσ90 := wt_fr_sf eσ90
                have vσ90 := wt_ceq (wt_v_sf eσ90)
                have rσ90 := wt_Rm9 rσ89 eσ90 (show 0 ≤ ((0 : Int32)).toInt by omega) (show ((0 : Int32)).toInt ≤ 3 by omega)
                refine wt_T_it (fun s : Int32 × wt_St => wt_fr (fun i k => False) (fun i => i = 275 ∨ i = 124) σ90 s.2 ∧ 0 ≤ (s.1).toInt ∧ wt_RI s.2) (fun s : Int32 × wt_St => ((4 : Int32).toInt - s.1.toInt + 0).toNat) (fun KK91 z92 I93 hKK91 => ?_) _ _ ?_ ?_
                · skip
                  obtain ⟨l94, l95, l96⟩ := I93
                  unfold wp_md_tongue_B272
                  have k97 : (4 : Int32).toInt = 4 := by decide
                  have bb98 := wt_bd z92.1
                  refine wt_T_if (fun h99 => ?_) (fun h99 => ?_)
                  · skip
                    have c100 := wt_cle h99
                    refine wt_T_some ?_
                    have g102 : 0 ≤ (wt_gf z92.2 108 28).toInt ∧ (wt_gf z92.2 108 28).toInt ≤ 60 := wt_Rf6 l96
                    have tt103 : (wt_gf z92.2 108 28).toInt = (wt_gf σ90 108 28).toInt := congrArg Int32.toInt (l94.1 108 28 (fun z => z))
                    have tt106 : (wt_gf σ90 108 28).toInt = (wt_gf σ89 108 28).toInt := congrArg Int32.toInt (fσ90.1 108 28 (by (try dsimp only); omega))
                    have tt109 : (wt_gf σ89 108 28).toInt = (wt_gf σ88 108 28).toInt := congrArg Int32.toInt (fσ89.1 108 28 (by (try dsimp only); omega))
                    have tt112 : (wt_gf σ88 108 28).toInt = (wt_gf z72.2 108 28).toInt := congrArg Int32.toInt (fσ88.1 108 28 (by (try dsimp only); omega))
                    have g114 : 0 ≤ (wt_gf z92.2 108 1).toInt ∧ (wt_gf z92.2 108 1).toInt ≤ 500 := wt_Rf0 l96
                    have tt115 : (wt_gf z92.2 108 1).toInt = (wt_gf σ90 108 1).toInt := congrArg Int32.toInt (l94.1 108 1 (fun z => z))
                    have tt118 : (wt_gf σ90 108 1).toInt = (wt_gf σ89 108 1).toInt := congrArg Int32.toInt (fσ90.1 108 1 (by (try dsimp only); omega))
                    have tt121 : (wt_gf σ89 108 1).toInt = (wt_gf σ88 108 1).toInt := congrArg Int32.toInt (fσ89.1 108 1 (by (try dsimp only); omega))
                    have tt124 : (wt_gf σ88 108 1).toInt = (wt_gf z72.2 108 1).toInt := congrArg Int32.toInt (fσ88.1 108 1 (by (try dsimp only); omega))
                    have tt127 : (wt_gf z72.2 108 1).toInt = (wt_gf σ65 108 1).toInt := congrArg Int32.toInt (l74.1 108 1 (fun z => z))
                    have tt130 : (wt_gf σ65 108 1).toInt = (wt_gf σ61 108 1).toInt := congrArg Int32.toInt (fσ65.1 108 1 (by (try dsimp only); omega))
                    have tt133 : (wt_gf σ61 108 1).toInt = (wt_gf σ54 108 1).toInt := congrArg Int32.toInt (fσ61.1 108 1 (by (try dsimp only); omega))
                    have tt136 : (wt_gf σ54 108 1).toInt = (wt_gf z29 108 1).toInt := congrArg Int32.toInt (fσ54.1 108 1 (by (try dsimp only); omega))
                    have tt139 : (wt_gf z29 108 1).toInt = (wt_gf σ27 108 1).toInt := congrArg Int32.toInt (l31.1 108 1 (by (try dsimp only); omega))
                    have tt142 : (wt_gf σ27 108 1).toInt = (wt_gf σ26 108 1).toInt := congrArg Int32.toInt (fσ27.1 108 1 (by (try dsimp only); omega))
                    have tt145 : (wt_gf σ26 108 1).toInt = (wt_gf r15 108 1).toInt := congrArg Int32.toInt (fσ26.1 108 1 (by (try dsimp only); omega))
                    have g147 : 0 ≤ (wt_gf σ 108 1).toInt ∧ (wt_gf σ 108 1).toInt ≤ 500 := wt_Rf0 r0
                    exact ⟨(wt_fr.tr (wt_fr.tr (wt_fr.tr (wt_fr.tr (wt_fr.tr (wt_fr.tr (wt_fr.tr (wt_fr.tr (wt_fr.tr (wt_fr.tr (wt_fr.tr (wt_fr.tr (wt_fr.tr wt_fr.rf f6 (fun i k h => by (try dsimp only at h); exact Or.inl (by first | exact h | omega)) (fun i h => h.elim)) f17 (fun i k h => by (try dsimp only at h); rcases h with h | h | h | h | h | h; exact Or.inr (Or.inl (by first | exact h | omega)); exact Or.inr (Or.inr (Or.inl (by first | exact h | omega))); exact Or.inr (Or.inr (Or.inr (Or.inl (by first | exact h | omega)))); exact Or.inr (Or.inr (Or.inr (Or.inr (Or.inl (by first | exact h | omega))))); exact Or.inr (Or.inr (Or.inr (Or.inr (Or.inr (Or.inl (by first | exact h | omega)))))); exact Or.inr (Or.inr (Or.inr (Or.inr (Or.inr (Or.inr (Or.inl (by first | exact h | omega)))))))) (fun i h => h.elim)) fσ26 (fun i k h => by (try dsimp only at h); exact Or.inr (Or.inr (Or.inr (Or.inr (Or.inr (Or.inr (Or.inr (Or.inl (by first | exact h | omega))))))))) (fun i h => h.elim)) fσ27 (fun i k h => by (try dsimp only at h); exact Or.inr (Or.inr (Or.inr (Or.inr (Or.inr (Or.inr (Or.inr (Or.inr (Or.inl (by first | exact h | omega)))))))))) (fun i h => h.elim)) l31 (fun i k h => by (try dsimp only at h); rcases h with h | h | h | h | h; exact Or.inr (Or.inr (Or.inr (Or.inl (by first | exact h | omega)))); exact Or.inr (Or.inr (Or.inr (Or.inr (Or.inl (by first | exact h | omega))))); exact Or.inr (Or.inr (Or.inr (Or.inr (Or.inr (Or.inl (by first | exact h | omega)))))); exact Or.inr (Or.inr (Or.inr (Or.inr (Or.inr (Or.inr (Or.inr (Or.inr (Or.inl (by first | exact h | omega))))))))); exact Or.inr (Or.inr (Or.inr (Or.inr (Or.inr (Or.inr (Or.inr (Or.inl (by first | exact h | omega))))))))) (fun i h => by (try dsimp only at h); rcases h with h | h | h | h; exact Or.inr (Or.inr (Or.inr (Or.inr (Or.inr (Or.inr (Or.inl (by first | exact h | omega))))))); exact Or.inr (Or.inr (Or.inr (Or.inr (Or.inr (Or.inr (Or.inr (Or.inl (by first | exact h | omega)))))))); exact Or.inr (Or.inr (Or.inr (Or.inr (Or.inr (Or.inr (Or.inr (Or.inr (Or.inl (by first | exact h | omega))))))))); exact Or.inr (Or.inr (Or.inr (Or.inr (Or.inr (Or.inr (Or.inr (Or.inr (Or.inr (by first | exact h | omega))))))))))) fσ54 (fun i k h => by (try dsimp only at h); exact Or.inr (Or.inr (Or.inr (Or.inr (Or.inr (Or.inr (Or.inr (Or.inr (Or.inr (Or.inl (by first | exact h | omega))))))))))) (fun i h => h.elim)) fσ61 (fun i k h => by (try dsimp only at h); exact Or.inr (Or.inr (Or.inr (Or.inr (Or.inr (Or.inr (Or.inr (Or.inr (Or.inr (Or.inr (Or.inl (by first | exact h | omega)))))))))))) (fun i h => h.elim)) fσ65 (fun i k h => by (try dsimp only at h); exact Or.inr (Or.inr (Or.inr (Or.inr (Or.inr (Or.inr (Or.inr (Or.inr (Or.inr (Or.inr (Or.inr (Or.inl (by first | exact h | omega))))))))))))) (fun i h => h.elim)) l74 (fun i k h => h.elim) (fun i h => by (try dsimp only at h); rcases h with h | h | h | h; exact Or.inr (Or.inr (Or.inl (by first | exact h | omega))); exact Or.inr (Or.inr (Or.inr (Or.inl (by first | exact h | omega)))); exact Or.inr (Or.inr (Or.inr (Or.inr (Or.inl (by first | exact h | omega))))); exact Or.inr (Or.inr (Or.inr (Or.inr (Or.inr (Or.inl (by first | exact h | omega)))))))) fσ88 (fun i k h => by (try dsimp only at h); exact Or.inr (Or.inr (Or.inr (Or.inr (Or.inr (Or.inr (Or.inr (Or.inr (Or.inr (Or.inr (Or.inr (Or.inr (Or.inl (by first | exact h | omega)))))))))))))) (fun i h => h.elim)) fσ89 (fun i k h => by (try dsimp only at h); exact Or.inr (Or.inr (Or.inr (Or.inr (Or.inr (Or.inr (Or.inr (Or.inr (Or.inr (Or.inr (Or.inr (Or.inr (Or.inr (Or.inl (by first | exact h | omega))))))))))))))) (fun i h => h.elim)) fσ90 (fun i k h => by (try dsimp only at h); exact Or.inr (Or.inr (Or.inr (Or.inr (Or.inr (Or.inr (Or.inr (Or.inr (Or.inr (Or.inr (Or.inr (Or.inr (Or.inr (Or.inr (by first | exact h | omega))))))))))))))) (fun i h => h.elim)) l94 (fun i k h => h.elim) (fun i h => by (try dsimp only at h); rcases h with h | h; exact Or.inl (by first | exact h | omega); exact Or.inr (Or.inl (by first | exact h | omega)))), l96, (show ((y1.toInt ≠ 0 → (wt_gf z92.2 108 1).toInt = (wt_gf σ 108 1).toInt) ∧ (y1.toInt = 0 ∧ (wt_gf σ 108 0).toInt = 0 → (wt_gf z92.2 108 1).toInt = 0)) from by omega)⟩
                  · skip
                    have c148 := wt_ncle h99
                    refine wt_T_gd (wt_ix (by first | with_reducible assumption | omega) (by first | with_reducible assumption | omega)) ?_
                    have bb149 := wt_tn z92.1
                    have g151 : -1 ≤ (wt_ga z92.2 275 (Int32.toNatClampNeg z92.1)).toInt ∧ (wt_ga z92.2 275 (Int32.toNatClampNeg z92.1)).toInt ≤ 7 := wt_Ra12 l96 275 (by decide) (by decide) (Int32.toNatClampNeg z92.1)
                    refine wt_T_if (fun h152 => ?_) (fun h152 => ?_)
                    · skip
                      have c153 := wt_ceq h152
                      rw [wt_lm1] at c153
                      unfold wp_md_tongue_B292
                      refine hKK91 _ ⟨(wt_fr.tr wt_fr.rf l94 (fun i k h => h.elim) (fun i h => by (try dsimp only at h); rcases h with h | h; exact Or.inl (by first | exact h | omega); exact Or.inr (by first | exact h | omega))), (wt_nn (B := (4 : Int32)) (by first | with_reducible assumption | omega) (by first | with_reducible assumption | omega)), l96⟩ ?_
                      show ((4 : Int32).toInt - (z92.1 + (1 : Int32)).toInt + 0).toNat < ((4 : Int32).toInt - z92.1.toInt + 0).toNat
                      exact wt_mu (by first | with_reducible assumption | omega) (by first | with_reducible assumption | omega)
                    · skip
                      have c154 := wt_nceq h152
                      rw [wt_lm1] at c154
                      refine wt_T_bi (wq_md_takesApart n hn z92.1 z92.2 l96 (by first | with_reducible assumption | omega) (by first | with_reducible assumption | omega)) (fun r155 h156 => ?_)
                      obtain ⟨f157, ri158⟩ := h156
                      unfold wp_md_tongue_B292
                      refine hKK91 _ ⟨(wt_fr.tr (wt_fr.tr wt_fr.rf l94 (fun i k h => h.elim) (fun i h => by (try dsimp only at h); rcases h with h | h; exact Or.inl (by first | exact h | omega); exact Or.inr (by first | exact h | omega))) f157 (fun i k h => h.elim) (fun i h => by (try dsimp only at h); rcases h with h | h; exact Or.inl (by first | exact h | omega); exact Or.inr (by first | exact h | omega))), (wt_nn (B := (4 : Int32)) (by first | with_reducible assumption | omega) (by first | with_reducible assumption | omega)), ri158⟩ ?_
                      show ((4 : Int32).toInt - (z92.1 + (1 : Int32)).toInt + 0).toNat < ((4 : Int32).toInt - z92.1.toInt + 0).toNat
                      exact wt_mu (by first | with_reducible assumption | omega) (by first | with_reducible assumption | omega)
                · skip
                  have k159 : (4 : Int32).toInt = 4 := by decide
                  exact ⟨wt_fr.rf, (show 0 ≤ ((0 : Int32)).toInt by omega), rσ90⟩
                · skip
                  have k160 : (4 : Int32).toInt = 4 := by decide
                  show ((4 : Int32).toInt - (0 : Int32).toInt + 0).toNat < n
                  omega
              · skip
                have c161 := wt_ncle h86
                refine wt_T_gd (wt_ix (by first | with_reducible assumption | omega) (by first | with_reducible assumption | omega)) ?_
                refine wt_T_gd (wt_ix (by first | with_reducible assumption | omega) (by first | with_reducible assumption | omega)) ?_
                refine wt_T_gd (wt_ix (by first | with_reducible assumption | omega) (by first | with_reducible assumption | omega)) ?_
                refine wt_T_gd (wt_ix (by first | with_reducible assumption | omega) (by first | with_reducible assumption | omega)) ?_
                refine wt_T_gd (wt_ix (by first | with_reducible assumption | omega) (by first | with_reducible assumption | omega)) ?_
                refine wt_T_gd (wt_ix (by first | with_reducible assumption | omega) (by first | with_reducible assumption | omega)) ?_
                obtain ⟨σ162, eσ162⟩ : ∃ z : wt_St, z = wt_sa z72.2 126 (Int32.toNatClampNeg z72.1) (wt_ga z72.2 125 (Int32.toNatClampNeg z72.1)) := ⟨_, rfl⟩
                rw [← eσ162]
                have fσ162 := wt_fr_sa eσ162
                have vσ162 := wt_ceq (wt_v_sa eσ162)
                have bb163 := wt_tn z72.1
                have g165 : 0 ≤ (wt_ga z72.2 125 (Int32.toNatClampNeg z72.1)).toInt ∧ (wt_ga z72.2 125 (Int32.toNatClampNeg z72.1)).toInt ≤ 9 := wt_Ra5 l76 125 (by decide) (by decide) (Int32.toNatClampNeg z72.1)
                have tt166 : (wt_ga z72.2 125 (Int32.toNatClampNeg z72.1)).toInt = (wt_ga σ65 125 (Int32.toNatClampNeg z72.1)).toInt := congrArg Int32.toInt (l74.2 125 (by (try dsimp only); omega) (Int32.toNatClampNeg z72.1))
                have tt169 : (wt_ga σ65 125 (Int32.toNatClampNeg z72.1)).toInt = (wt_ga σ61 125 (Int32.toNatClampNeg z72.1)).toInt := congrArg Int32.toInt (fσ65.2 125 (fun z => z) (Int32.toNatClampNeg z72.1))
                have tt172 : (wt_ga σ61 125 (Int32.toNatClampNeg z72.1)).toInt = (wt_ga σ54 125 (Int32.toNatClampNeg z72.1)).toInt := congrArg Int32.toInt (fσ61.2 125 (fun z => z) (Int32.toNatClampNeg z72.1))
                have tt175 : (wt_ga σ54 125 (Int32.toNatClampNeg z72.1)).toInt = (wt_ga z29 125 (Int32.toNatClampNeg z72.1)).toInt := congrArg Int32.toInt (fσ54.2 125 (fun z => z) (Int32.toNatClampNeg z72.1))
                have rσ162 := wt_Rn5 l76 eσ162 (by decide) (by decide) (show 0 ≤ (wt_ga z72.2 125 (Int32.toNatClampNeg z72.1)).toInt by omega) (show (wt_ga z72.2 125 (Int32.toNatClampNeg z72.1)).toInt ≤ 9 by omega)
                obtain ⟨σ178, eσ178⟩ : ∃ z : wt_St, z = wt_sa σ162 128 (Int32.toNatClampNeg z72.1) (wt_ga σ162 127 (Int32.toNatClampNeg z72.1)) := ⟨_, rfl⟩
                rw [← eσ178]
                have fσ178 := wt_fr_sa eσ178
                have vσ178 := wt_ceq (wt_v_sa eσ178)
                have g180 : 0 ≤ (wt_ga σ162 127 (Int32.toNatClampNeg z72.1)).toInt ∧ (wt_ga σ162 127 (Int32.toNatClampNeg z72.1)).toInt ≤ 3 := wt_Ra6 rσ162 127 (by decide) (by decide) (Int32.toNatClampNeg z72.1)
                have tt181 : (wt_ga σ162 127 (Int32.toNatClampNeg z72.1)).toInt = (wt_ga z72.2 127 (Int32.toNatClampNeg z72.1)).toInt := congrArg Int32.toInt (fσ162.2 127 (by (try dsimp only); omega) (Int32.toNatClampNeg z72.1))
                have tt184 : (wt_ga z72.2 127 (Int32.toNatClampNeg z72.1)).toInt = (wt_ga σ65 127 (Int32.toNatClampNeg z72.1)).toInt := congrArg Int32.toInt (l74.2 127 (by (try dsimp only); omega) (Int32.toNatClampNeg z72.1))
                have tt187 : (wt_ga σ65 127 (Int32.toNatClampNeg z72.1)).toInt = (wt_ga σ61 127 (Int32.toNatClampNeg z72.1)).toInt := congrArg Int32.toInt (fσ65.2 127 (fun z => z) (Int32.toNatClampNeg z72.1))
                have tt190 : (wt_ga σ61 127 (Int32.toNatClampNeg z72.1)).toInt = (wt_ga σ54 127 (Int32.toNatClampNeg z72.1)).toInt := congrArg Int32.toInt (fσ61.2 127 (fun z => z) (Int32.toNatClampNeg z72.1))
                have tt193 : (wt_ga σ54 127 (Int32.toNatClampNeg z72.1)).toInt = (wt_ga z29 127 (Int32.toNatClampNeg z72.1)).toInt := congrArg Int32.toInt (fσ54.2 127 (fun z => z) (Int32.toNatClampNeg z72.1))
                have rσ178 := wt_Rn6 rσ162 eσ178 (by decide) (by decide) (show 0 ≤ (wt_ga σ162 127 (Int32.toNatClampNeg z72.1)).toInt by omega) (show (wt_ga σ162 127 (Int32.toNatClampNeg z72.1)).toInt ≤ 3 by omega)
                obtain ⟨σ196, eσ196⟩ : ∃ z : wt_St, z = wt_sa σ178 130 (Int32.toNatClampNeg z72.1) (wt_ga σ178 129 (Int32.toNatClampNeg z72.1)) := ⟨_, rfl⟩
                rw [← eσ196]
                have fσ196 := wt_fr_sa eσ196
                have vσ196 := wt_ceq (wt_v_sa eσ196)
                have bb197 := wt_bd (wt_ga σ178 129 (Int32.toNatClampNeg z72.1))
                have tt198 : (wt_ga σ178 129 (Int32.toNatClampNeg z72.1)).toInt = (wt_ga σ162 129 (Int32.toNatClampNeg z72.1)).toInt := congrArg Int32.toInt (fσ178.2 129 (by (try dsimp only); omega) (Int32.toNatClampNeg z72.1))
                have bb199 := wt_bd (wt_ga σ162 129 (Int32.toNatClampNeg z72.1))
                have tt200 : (wt_ga σ162 129 (Int32.toNatClampNeg z72.1)).toInt = (wt_ga z72.2 129 (Int32.toNatClampNeg z72.1)).toInt := congrArg Int32.toInt (fσ162.2 129 (by (try dsimp only); omega) (Int32.toNatClampNeg z72.1))
                have bb201 := wt_bd (wt_ga z72.2 129 (Int32.toNatClampNeg z72.1))
                have tt202 : (wt_ga z72.2 129 (Int32.toNatClampNeg z72.1)).toInt = (wt_ga σ65 129 (Int32.toNatClampNeg z72.1)).toInt := congrArg Int32.toInt (l74.2 129 (by (try dsimp only); omega) (Int32.toNatClampNeg z72.1))
                have bb203 := wt_bd (wt_ga σ65 129 (Int32.toNatClampNeg z72.1))
                have tt204 : (wt_ga σ65 129 (Int32.toNatClampNeg z72.1)).toInt = (wt_ga σ61 129 (Int32.toNatClampNeg z72.1)).toInt := congrArg Int32.toInt (fσ65.2 129 (fun z => z) (Int32.toNatClampNeg z72.1))
                have bb205 := wt_bd (wt_ga σ61 129 (Int32.toNatClampNeg z72.1))
                have tt206 : (wt_ga σ61 129 (Int32.toNatClampNeg z72.1)).toInt = (wt_ga σ54 129 (Int32.toNatClampNeg z72.1)).toInt := congrArg Int32.toInt (fσ61.2 129 (fun z => z) (Int32.toNatClampNeg z72.1))
                have bb207 := wt_bd (wt_ga σ54 129 (Int32.toNatClampNeg z72.1))
                have tt208 : (wt_ga σ54 129 (Int32.toNatClampNeg z72.1)).toInt = (wt_ga z29 129 (Int32.toNatClampNeg z72.1)).toInt := congrArg Int32.toInt (fσ54.2 129 (fun z => z) (Int32.toNatClampNeg z72.1))
                have bb209 := wt_bd (wt_ga z29 129 (Int32.toNatClampNeg z72.1))
                have rσ196 := wt_RI_no rσ178 eσ196 130 131 (by decide +kernel) (by decide) (by decide)
                refine wt_T_it (fun s : Int32 × wt_St => wt_fr (fun i k => False) (fun i => (193 ≤ i ∧ i < 253)) σ196 s.2 ∧ 0 ≤ (s.1).toInt ∧ wt_RI s.2) (fun s : Int32 × wt_St => ((9 : Int32).toInt - s.1.toInt + 0).toNat) (fun KK210 z211 I212 hKK210 => ?_) _ _ ?_ ?_
                · skip
                  obtain ⟨l213, l214, l215⟩ := I212
                  unfold wp_md_tongue_B221
                  have k216 : (9 : Int32).toInt = 9 := by decide
                  have bb217 := wt_bd z211.1
                  refine wt_T_if (fun h218 => ?_) (fun h218 => ?_)
                  · skip
                    have c219 := wt_cle h218
                    have g221 : 0 ≤ (wt_gf z211.2 108 28).toInt ∧ (wt_gf z211.2 108 28).toInt ≤ 60 := wt_Rf6 l215
                    have tt222 : (wt_gf z211.2 108 28).toInt = (wt_gf σ196 108 28).toInt := congrArg Int32.toInt (l213.1 108 28 (fun z => z))
                    have tt225 : (wt_gf σ196 108 28).toInt = (wt_gf σ178 108 28).toInt := congrArg Int32.toInt (fσ196.1 108 28 (fun z => z))
                    have tt228 : (wt_gf σ178 108 28).toInt = (wt_gf σ162 108 28).toInt := congrArg Int32.toInt (fσ178.1 108 28 (fun z => z))
                    have tt231 : (wt_gf σ162 108 28).toInt = (wt_gf z72.2 108 28).toInt := congrArg Int32.toInt (fσ162.1 108 28 (fun z => z))
                    refine hKK71 _ ⟨(wt_fr.tr (wt_fr.tr (wt_fr.tr (wt_fr.tr (wt_fr.tr wt_fr.rf l74 (fun i k h => h.elim) (fun i h => by (try dsimp only at h); rcases h with h | h | h | h; exact Or.inl (by first | exact h | omega); exact Or.inr (Or.inl (by first | exact h | omega)); exact Or.inr (Or.inr (Or.inl (by first | exact h | omega))); exact Or.inr (Or.inr (Or.inr (by first | exact h | omega))))) fσ162 (fun i k h => h.elim) (fun i h => by (try dsimp only at h); exact Or.inl (by first | exact h | omega))) fσ178 (fun i k h => h.elim) (fun i h => by (try dsimp only at h); exact Or.inr (Or.inl (by first | exact h | omega)))) fσ196 (fun i k h => h.elim) (fun i h => by (try dsimp only at h); exact Or.inr (Or.inr (Or.inl (by first | exact h | omega))))) l213 (fun i k h => h.elim) (fun i h => by (try dsimp only at h); exact Or.inr (Or.inr (Or.inr (by first | exact h | omega))))), (wt_nn (B := wt_gf z72.2 108 28) (by first | with_reducible assumption | omega) (by first | with_reducible assumption | omega)), l215⟩ ?_
                    show ((wt_gf z211.2 108 28).toInt - (z72.1 + (1 : Int32)).toInt + 0).toNat < ((wt_gf z72.2 108 28).toInt - z72.1.toInt + 0).toNat
                    exact wt_mu (by first | with_reducible assumption | omega) (by first | with_reducible assumption | omega)
                  · skip
                    have c232 := wt_ncle h218
                    refine wt_T_gd (wt_ix (by first | with_reducible assumption | omega) (by first | with_reducible assumption | omega)) ?_
                    refine wt_T_gd (wt_ix (by first | with_reducible assumption | omega) (by first | with_reducible assumption | omega)) ?_
                    refine wt_T_gd (wt_ix (by first | with_reducible assumption | omega) (by first | with_reducible assumption | omega)) ?_
                    refine wt_T_gd (wt_ix (by first | with_reducible assumption | omega) (by first | with_reducible assumption | omega)) ?_
                    obtain ⟨σ233, eσ233⟩ : ∃ z : wt_St, z = wt_sa z211.2 (193 + (Int32.toNatClampNeg z72.1)) (Int32.toNatClampNeg z211.1) (wt_ga z211.2 (132 + (Int32.toNatClampNeg z72.1)) (Int32.toNatClampNeg z211.1)) := ⟨_, rfl⟩
                    rw [← eσ233]
                    have fσ233 := wt_fr_sa eσ233
                    have vσ233 := wt_ceq (wt_v_sa eσ233)
                    have bb234 := wt_tn z211.1
                    have g236 : 0 ≤ (wt_ga z211.2 (132 + (Int32.toNatClampNeg z72.1)) (Int32.toNatClampNeg z211.1)).toInt ∧ (wt_ga z211.2 (132 + (Int32.toNatClampNeg z72.1)) (Int32.toNatClampNeg z211.1)).toInt ≤ 25 := wt_Ra7 l215 (132 + (Int32.toNatClampNeg z72.1)) (show 132 ≤ 132 + (Int32.toNatClampNeg z72.1) by omega) (show 132 + (Int32.toNatClampNeg z72.1) < 192 by omega) (Int32.toNatClampNeg z211.1)
                    have tt237 : (wt_ga z211.2 (132 + (Int32.toNatClampNeg z72.1)) (Int32.toNatClampNeg z211.1)).toInt = (wt_ga σ196 (132 + (Int32.toNatClampNeg z72.1)) (Int32.toNatClampNeg z211.1)).toInt := congrArg Int32.toInt (l213.2 (132 + (Int32.toNatClampNeg z72.1)) (by (try dsimp only); omega) (Int32.toNatClampNeg z211.1))
                    have tt240 : (wt_ga σ196 (132 + (Int32.toNatClampNeg z72.1)) (Int32.toNatClampNeg z211.1)).toInt = (wt_ga σ178 (132 + (Int32.toNatClampNeg z72.1)) (Int32.toNatClampNeg z211.1)).toInt := congrArg Int32.toInt (fσ196.2 (132 + (Int32.toNatClampNeg z72.1)) (by (try dsimp only); omega) (Int32.toNatClampNeg z211.1))
                    have tt243 : (wt_ga σ178 (132 + (Int32.toNatClampNeg z72.1)) (Int32.toNatClampNeg z211.1)).toInt = (wt_ga σ162 (132 + (Int32.toNatClampNeg z72.1)) (Int32.toNatClampNeg z211.1)).toInt := congrArg Int32.toInt (fσ178.2 (132 + (Int32.toNatClampNeg z72.1)) (by (try dsimp only); omega) (Int32.toNatClampNeg z211.1))
                    have tt246 : (wt_ga σ162 (132 + (Int32.toNatClampNeg z72.1)) (Int32.toNatClampNeg z211.1)).toInt = (wt_ga z72.2 (132 + (Int32.toNatClampNeg z72.1)) (Int32.toNatClampNeg z211.1)).toInt := congrArg Int32.toInt (fσ162.2 (132 + (Int32.toNatClampNeg z72.1)) (by (try dsimp only); omega) (Int32.toNatClampNeg z211.1))
                    have tt249 : (wt_ga z72.2 (132 + (Int32.toNatClampNeg z72.1)) (Int32.toNatClampNeg z211.1)).toInt = (wt_ga σ65 (132 + (Int32.toNatClampNeg z72.1)) (Int32.toNatClampNeg z211.1)).toInt := congrArg Int32.toInt (l74.2 (132 + (Int32.toNatClampNeg z72.1)) (by (try dsimp only); omega) (Int32.toNatClampNeg z211.1))
                    have tt252 : (wt_ga σ65 (132 + (Int32.toNatClampNeg z72.1)) (Int32.toNatClampNeg z211.1)).toInt = (wt_ga σ61 (132 + (Int32.toNatClampNeg z72.1)) (Int32.toNatClampNeg z211.1)).toInt := congrArg Int32.toInt (fσ65.2 (132 + (Int32.toNatClampNeg z72.1)) (fun z => z) (Int32.toNatClampNeg z211.1))
                    have tt255 : (wt_ga σ61 (132 + (Int32.toNatClampNeg z72.1)) (Int32.toNatClampNeg z211.1)).toInt = (wt_ga σ54 (132 + (Int32.toNatClampNeg z72.1)) (Int32.toNatClampNeg z211.1)).toInt := congrArg Int32.toInt (fσ61.2 (132 + (Int32.toNatClampNeg z72.1)) (fun z => z) (Int32.toNatClampNeg z211.1))
                    have tt258 : (wt_ga σ54 (132 + (Int32.toNatClampNeg z72.1)) (Int32.toNatClampNeg z211.1)).toInt = (wt_ga z29 (132 + (Int32.toNatClampNeg z72.1)) (Int32.toNatClampNeg z211.1)).toInt := congrArg Int32.toInt (fσ54.2 (132 + (Int32.toNatClampNeg z72.1)) (fun z => z) (Int32.toNatClampNeg z211.1))
                    have rσ233 := wt_Rn8 l215 eσ233 (show 193 ≤ 193 + (Int32.toNatClampNeg z72.1) by omega) (show 193 + (Int32.toNatClampNeg z72.1) < 253 by omega) (show 0 ≤ (wt_ga z211.2 (132 + (Int32.toNatClampNeg z72.1)) (Int32.toNatClampNeg z211.1)).toInt by omega) (show (wt_ga z211.2 (132 + (Int32.toNatClampNeg z72.1)) (Int32.toNatClampNeg z211.1)).toInt ≤ 25 by omega)
                    refine hKK210 _ ⟨(wt_fr.tr (wt_fr.tr wt_fr.rf l213 (fun i k h => h.elim) (fun i h => by (try dsimp only at h); exact (by first | exact h | omega))) fσ233 (fun i k h => h.elim) (fun i h => by (try dsimp only at h); exact (by first | exact h | omega))), (wt_nn (B := (9 : Int32)) (by first | with_reducible assumption | omega) (by first | with_reducible assumption | omega)), rσ233⟩ ?_
                    show ((9 : Int32).toInt - (z211.1 + (1 : Int32)).toInt + 0).toNat < ((9 : Int32).toInt - z211.1.toInt + 0).toNat
                    exact wt_mu (by first | with_reducible assumption | omega) (by first | with_reducible assumption | omega)
                · skip
                  have k261 : (9 : Int32).toInt = 9 := by decide
                  exact ⟨wt_fr.rf, (show 0 ≤ ((0 : Int32)).toInt by omega), rσ196⟩
                · skip
                  have k262 : (9 : Int32).toInt = 9 := by decide
                  show ((9 : Int32).toInt - (0 : Int32).toInt + 0).toNat < n
                  omega
            · skip
              have g264 : 0 ≤ (wt_gf σ65 108 28).toInt ∧ (wt_gf σ65 108 28).toInt ≤ 60 := wt_Rf6 rσ65
              have tt265 : (wt_gf σ65 108 28).toInt = (wt_gf σ61 108 28).toInt := congrArg Int32.toInt (fσ65.1 108 28 (by (try dsimp only); omega))
              exact ⟨wt_fr.rf, (show 0 ≤ ((0 : Int32)).toInt by omega), rσ65⟩
            · skip
              have g269 : 0 ≤ (wt_gf σ65 108 28).toInt ∧ (wt_gf σ65 108 28).toInt ≤ 60 := wt_Rf6 rσ65
              have tt270 : (wt_gf σ65 108 28).toInt = (wt_gf σ61 108 28).toInt := congrArg Int32.toInt (fσ65.1 108 28 (by (try dsimp only); omega))
              show ((wt_gf σ65 108 28).toInt - (0 : Int32).toInt + 0).toNat < n
              omega
          · skip
            have c273 := wt_nceq h59
            refine wt_T_some ?_
            have k274 : (10 : Int32).toInt = 10 := by decide
            obtain ⟨j275, j275a, j275b⟩ := wt_subI (wt_gf σ54 108 5) (10 : Int32)
            have g277 : 0 ≤ (wt_gf σ54 108 1).toInt ∧ (wt_gf σ54 108 1).toInt ≤ 500 := wt_Rf0 rσ54
            have tt278 : (wt_gf σ54 108 1).toInt = (wt_gf z29 108 1).toInt := congrArg Int32.toInt (fσ54.1 108 1 (by (try dsimp only); omega))
            have tt281 : (wt_gf z29 108 1).toInt = (wt_gf σ27 108 1).toInt := congrArg Int32.toInt (l31.1 108 1 (by (try dsimp only); omega))
            have tt284 : (wt_gf σ27 108 1).toInt = (wt_gf σ26 108 1).toInt := congrArg Int32.toInt (fσ27.1 108 1 (by (try dsimp only); omega))
            have tt287 : (wt_gf σ26 108 1).toInt = (wt_gf r15 108 1).toInt := congrArg Int32.toInt (fσ26.1 108 1 (by (try dsimp only); omega))
            have g289 : 0 ≤ (wt_gf σ 108 1).toInt ∧ (wt_gf σ 108 1).toInt ≤ 500 := wt_Rf0 r0
            exact ⟨(wt_fr.tr (wt_fr.tr (wt_fr.tr (wt_fr.tr (wt_fr.tr (wt_fr.tr wt_fr.rf f6 (fun i k h => by (try dsimp only at h); exact Or.inl (by first | exact h | omega)) (fun i h => h.elim)) f17 (fun i k h => by (try dsimp only at h); rcases h with h | h | h | h | h | h; exact Or.inr (Or.inl (by first | exact h | omega)); exact Or.inr (Or.inr (Or.inl (by first | exact h | omega))); exact Or.inr (Or.inr (Or.inr (Or.inl (by first | exact h | omega)))); exact Or.inr (Or.inr (Or.inr (Or.inr (Or.inl (by first | exact h | omega))))); exact Or.inr (Or.inr (Or.inr (Or.inr (Or.inr (Or.inl (by first | exact h | omega)))))); exact Or.inr (Or.inr (Or.inr (Or.inr (Or.inr (Or.inr (Or.inl (by first | exact h | omega)))))))) (fun i h => h.elim)) fσ26 (fun i k h => by (try dsimp only at h); exact Or.inr (Or.inr (Or.inr (Or.inr (Or.inr (Or.inr (Or.inr (Or.inl (by first | exact h | omega))))))))) (fun i h => h.elim)) fσ27 (fun i k h => by (try dsimp only at h); exact Or.inr (Or.inr (Or.inr (Or.inr (Or.inr (Or.inr (Or.inr (Or.inr (Or.inl (by first | exact h | omega)))))))))) (fun i h => h.elim)) l31 (fun i k h => by (try dsimp only at h); rcases h with h | h | h | h | h; exact Or.inr (Or.inr (Or.inr (Or.inl (by first | exact h | omega)))); exact Or.inr (Or.inr (Or.inr (Or.inr (Or.inl (by first | exact h | omega))))); exact Or.inr (Or.inr (Or.inr (Or.inr (Or.inr (Or.inl (by first | exact h | omega)))))); exact Or.inr (Or.inr (Or.inr (Or.inr (Or.inr (Or.inr (Or.inr (Or.inr (Or.inl (by first | exact h | omega))))))))); exact Or.inr (Or.inr (Or.inr (Or.inr (Or.inr (Or.inr (Or.inr (Or.inl (by first | exact h | omega))))))))) (fun i h => by (try dsimp only at h); rcases h with h | h | h | h; exact Or.inr (Or.inr (Or.inr (Or.inr (Or.inr (Or.inr (Or.inl (by first | exact h | omega))))))); exact Or.inr (Or.inr (Or.inr (Or.inr (Or.inr (Or.inr (Or.inr (Or.inl (by first | exact h | omega)))))))); exact Or.inr (Or.inr (Or.inr (Or.inr (Or.inr (Or.inr (Or.inr (Or.inr (Or.inl (by first | exact h | omega))))))))); exact Or.inr (Or.inr (Or.inr (Or.inr (Or.inr (Or.inr (Or.inr (Or.inr (Or.inr (by first | exact h | omega))))))))))) fσ54 (fun i k h => by (try dsimp only at h); exact Or.inr (Or.inr (Or.inr (Or.inr (Or.inr (Or.inr (Or.inr (Or.inr (Or.inr (Or.inl (by first | exact h | omega))))))))))) (fun i h => h.elim)), rσ54, (show ((y1.toInt ≠ 0 → (wt_gf σ54 108 1).toInt = (wt_gf σ 108 1).toInt) ∧ (y1.toInt = 0 ∧ (wt_gf σ 108 0).toInt = 0 → (wt_gf σ54 108 1).toInt = 0)) from by omega)⟩
        · skip
          have c290 := wt_ncle h52
          refine wt_T_bi (wq_md_reads n hn (0 : Int32) z29 l32 (by first | with_reducible assumption | omega) (by first | with_reducible assumption | omega)) (fun r291 h292 => ?_)
          obtain ⟨f293, ri294, pp295⟩ := h292
          have g297 : 0 ≤ (wt_gf r291 108 5).toInt ∧ (wt_gf r291 108 5).toInt ≤ 3 := wt_Rf3 ri294
          have g299 : 0 ≤ (wt_gf r291 108 27).toInt ∧ (wt_gf r291 108 27).toInt ≤ 60 := wt_Rf5 ri294
          refine wt_T_bi (wq_md_blanks n hn r291 ri294) (fun r300 h301 => ?_)
          obtain ⟨f302, ri303, pp304⟩ := h301
          have g306 : 0 ≤ (wt_gf r291 108 4).toInt ∧ (wt_gf r291 108 4).toInt ≤ 500 := wt_Rf2 ri294
          have g308 : 0 ≤ (wt_gf r300 108 4).toInt ∧ (wt_gf r300 108 4).toInt ≤ 500 := wt_Rf2 ri303
          refine wt_T_it (fun s : Int32 × wt_St => wt_fr (fun i k => (i = 108 ∧ k = 4) ∨ (i = 108 ∧ k = 5) ∨ (i = 108 ∧ k = 6) ∨ (i = 108 ∧ k = 29) ∨ (i = 108 ∧ k = 27)) (fun i => i = 125 ∨ i = 127 ∨ i = 129 ∨ (132 ≤ i ∧ i < 192)) r300 s.2 ∧ 1 ≤ s.1.toInt ∧ s.1.toInt ≤ 6 ∧ (s.1.toInt ≤ 5 ∨ (wt_gf s.2 108 5).toInt ≠ 0) ∧ (wt_gf z29 108 27).toInt ≤ (wt_gf s.2 108 27).toInt ∧ ((wt_gf s.2 108 5).toInt ≠ 0 ∨ (wt_gf z29 108 27).toInt < (wt_gf s.2 108 27).toInt) ∧ wt_RI s.2) (fun s : Int32 × wt_St => (6 - s.1.toInt).toNat) (fun KK309 z310 I311 hKK309 => ?_) _ _ ?_ ?_
          · skip
            obtain ⟨l312, l313, l314, l315, l316, l317, l318⟩ := I311
            unfold wp_md_tongue_B76
            have g320 : 0 ≤ (wt_gf z310.2 108 5).toInt ∧ (wt_gf z310.2 108 5).toInt ≤ 3 := wt_Rf3 l318
            have g322 : 0 ≤ (wt_gf z310.2 108 27).toInt ∧ (wt_gf z310.2 108 27).toInt ≤ 60 := wt_Rf5 l318
            have bb323 := wt_bd z310.1
            refine wt_T_if (fun h324 => ?_) (fun h324 => ?_)
            · skip
              have c325 := wt_ceq h324
              have g327 : 0 ≤ (wt_gf z310.2 108 4).toInt ∧ (wt_gf z310.2 108 4).toInt ≤ 500 := wt_Rf2 l318
              refine wt_T_bi (wq_md_byteAt n hn (wt_gf z310.2 108 4) z310.2 l318 (by first | with_reducible assumption | omega)) (fun r328 h329 => ?_)
              obtain ⟨e330, pp331⟩ := h329
              have bb332 := wt_bd r328.1
              rw [e330]
              have g334 : 0 ≤ (wt_gf z310.2 108 2).toInt ∧ (wt_gf z310.2 108 2).toInt ≤ 500 := wt_Rf1 l318
              have tt335 : (wt_gf z310.2 108 2).toInt = (wt_gf r300 108 2).toInt := congrArg Int32.toInt (l312.1 108 2 (by (try dsimp only); omega))
              have tt338 : (wt_gf r300 108 2).toInt = (wt_gf r291 108 2).toInt := congrArg Int32.toInt (f302.1 108 2 (by (try dsimp only); omega))
              have tt341 : (wt_gf r291 108 2).toInt = (wt_gf z29 108 2).toInt := congrArg Int32.toInt (f293.1 108 2 (by (try dsimp only); omega))
              have bb342 := wt_tn (wt_gf z310.2 108 4)
              have bb343 := wt_bd (wt_ga z310.2 109 (Int32.toNatClampNeg (wt_gf z310.2 108 4)))
              have tt344 : (wt_ga z310.2 109 (Int32.toNatClampNeg (wt_gf z310.2 108 4))).toInt = (wt_ga r300 109 (Int32.toNatClampNeg (wt_gf z310.2 108 4))).toInt := congrArg Int32.toInt (l312.2 109 (by (try dsimp only); omega) (Int32.toNatClampNeg (wt_gf z310.2 108 4)))
              have bb345 := wt_bd (wt_ga r300 109 (Int32.toNatClampNeg (wt_gf z310.2 108 4)))
              have tt346 : (wt_ga r300 109 (Int32.toNatClampNeg (wt_gf z310.2 108 4))).toInt = (wt_ga r291 109 (Int32.toNatClampNeg (wt_gf z310.2 108 4))).toInt := congrArg Int32.toInt (f302.2 109 (fun z => z) (Int32.toNatClampNeg (wt_gf z310.2 108 4)))
              have bb347 := wt_bd (wt_ga r291 109 (Int32.toNatClampNeg (wt_gf z310.2 108 4)))
              have tt348 : (wt_ga r291 109 (Int32.toNatClampNeg (wt_gf z310.2 108 4))).toInt = (wt_ga z29 109 (Int32.toNatClampNeg (wt_gf z310.2 108 4))).toInt := congrArg Int32.toInt (f293.2 109 (by (try dsimp only); omega) (Int32.toNatClampNeg (wt_gf z310.2 108 4)))
              have bb349 := wt_bd (wt_ga z29 109 (Int32.toNatClampNeg (wt_gf z310.2 108 4)))
              have tt350 : (wt_ga z29 109 (Int32.toNatClampNeg (wt_gf z310.2 108 4))).toInt = (wt_ga σ27 109 (Int32.toNatClampNeg (wt_gf z310.2 108 4))).toInt := congrArg Int32.toInt (l31.2 109 (by (try dsimp only); omega) (Int32.toNatClampNeg (wt_gf z310.2 108 4)))
              have bb351 := wt_bd (wt_ga σ27 109 (Int32.toNatClampNeg (wt_gf z310.2 108 4)))
              have tt352 : (wt_ga σ27 109 (Int32.toNatClampNeg (wt_gf z310.2 108 4))).toInt = (wt_ga σ26 109 (Int32.toNatClampNeg (wt_gf z310.2 108 4))).toInt := congrArg Int32.toInt (fσ27.2 109 (fun z => z) (Int32.toNatClampNeg (wt_gf z310.2 108 4)))
              have bb353 := wt_bd (wt_ga σ26 109 (Int32.toNatClampNeg (wt_gf z310.2 108 4)))
              have tt354 : (wt_ga σ26 109 (Int32.toNatClampNeg (wt_gf z310.2 108 4))).toInt = (wt_ga r15 109 (Int32.toNatClampNeg (wt_gf z310.2 108 4))).toInt := congrArg Int32.toInt (fσ26.2 109 (fun z => z) (Int32.toNatClampNeg (wt_gf z310.2 108 4)))
              have bb355 := wt_bd (wt_ga r15 109 (Int32.toNatClampNeg (wt_gf z310.2 108 4)))
              have tt356 : (wt_ga r15 109 (Int32.toNatClampNeg (wt_gf z310.2 108 4))).toInt = (wt_ga r4.2 109 (Int32.toNatClampNeg (wt_gf z310.2 108 4))).toInt := congrArg Int32.toInt (f17.2 109 (fun z => z) (Int32.toNatClampNeg (wt_gf z310.2 108 4)))
              have bb357 := wt_bd (wt_ga r4.2 109 (Int32.toNatClampNeg (wt_gf z310.2 108 4)))
              have tt358 : (wt_ga r4.2 109 (Int32.toNatClampNeg (wt_gf z310.2 108 4))).toInt = (wt_ga σ 109 (Int32.toNatClampNeg (wt_gf z310.2 108 4))).toInt := congrArg Int32.toInt (f6.2 109 (fun z => z) (Int32.toNatClampNeg (wt_gf z310.2 108 4)))
              have bb359 := wt_bd (wt_ga σ 109 (Int32.toNatClampNeg (wt_gf z310.2 108 4)))
              have k360 : (44 : Int32).toInt = 44 := by decide
              refine wt_T_if (fun h361 => ?_) (fun h361 => ?_)
              · skip
                have c362 := wt_ceq h361
                obtain ⟨σ363, eσ363⟩ : ∃ z : wt_St, z = wt_sf z310.2 108 4 ((wt_gf z310.2 108 4) + (1 : Int32)) := ⟨_, rfl⟩
                rw [← eσ363]
                have fσ363 := wt_fr_sf eσ363
                have vσ363 := wt_ceq (wt_v_sf eσ363)
                obtain ⟨j364, j364a, j364b⟩ := wt_addI (wt_gf z310.2 108 4) (1 : Int32)
                have rσ363 := wt_Rm2 l318 eσ363 (show 0 ≤ ((wt_gf z310.2 108 4) + (1 : Int32)).toInt by omega) (show ((wt_gf z310.2 108 4) + (1 : Int32)).toInt ≤ 500 by omega)
                refine wt_T_bi (wq_md_reads n hn z310.1 σ363 rσ363 (by first | with_reducible assumption | omega) (by first | with_reducible assumption | omega)) (fun r365 h366 => ?_)
                obtain ⟨f367, ri368, pp369⟩ := h366
                have g371 : 0 ≤ (wt_gf r365 108 5).toInt ∧ (wt_gf r365 108 5).toInt ≤ 3 := wt_Rf3 ri368
                have g373 : 0 ≤ (wt_gf σ363 108 27).toInt ∧ (wt_gf σ363 108 27).toInt ≤ 60 := wt_Rf5 rσ363
                have tt374 : (wt_gf σ363 108 27).toInt = (wt_gf z310.2 108 27).toInt := congrArg Int32.toInt (fσ363.1 108 27 (by (try dsimp only); omega))
                have g376 : 0 ≤ (wt_gf r365 108 27).toInt ∧ (wt_gf r365 108 27).toInt ≤ 60 := wt_Rf5 ri368
                refine wt_T_bi (wq_md_blanks n hn r365 ri368) (fun r377 h378 => ?_)
                obtain ⟨f379, ri380, pp381⟩ := h378
                have g383 : 0 ≤ (wt_gf r365 108 4).toInt ∧ (wt_gf r365 108 4).toInt ≤ 500 := wt_Rf2 ri368
                have g385 : 0 ≤ (wt_gf r377 108 4).toInt ∧ (wt_gf r377 108 4).toInt ≤ 500 := wt_Rf2 ri380
                obtain ⟨j386, j386a, j386b⟩ := wt_addI z310.1 (1 : Int32)
                have g388 : 0 ≤ (wt_gf r377 108 5).toInt ∧ (wt_gf r377 108 5).toInt ≤ 3 := wt_Rf3 ri380
                have tt389 : (wt_gf r377 108 5).toInt = (wt_gf r365 108 5).toInt := congrArg Int32.toInt (f379.1 108 5 (by (try dsimp only); omega))
                have g391 : 0 ≤ (wt_gf r377 108 27).toInt ∧ (wt_gf r377 108 27).toInt ≤ 60 := wt_Rf5 ri380
                have tt392 : (wt_gf r377 108 27).toInt = (wt_gf r365 108 27).toInt := congrArg Int32.toInt (f379.1 108 27 (by (try dsimp only); omega))
                refine hKK309 _ ⟨(wt_fr.tr (wt_fr.tr (wt_fr.tr (wt_fr.tr wt_fr.rf l312 (fun i k h => by (try dsimp only at h); rcases h with h | h | h | h | h; exact Or.inl (by first | exact h | omega); exact Or.inr (Or.inl (by first | exact h | omega)); exact Or.inr (Or.inr (Or.inl (by first | exact h | omega))); exact Or.inr (Or.inr (Or.inr (Or.inl (by first | exact h | omega)))); exact Or.inr (Or.inr (Or.inr (Or.inr (by first | exact h | omega))))) (fun i h => by (try dsimp only at h); rcases h with h | h | h | h; exact Or.inl (by first | exact h | omega); exact Or.inr (Or.inl (by first | exact h | omega)); exact Or.inr (Or.inr (Or.inl (by first | exact h | omega))); exact Or.inr (Or.inr (Or.inr (by first | exact h | omega))))) fσ363 (fun i k h => by (try dsimp only at h); exact Or.inl (by first | exact h | omega)) (fun i h => h.elim)) f367 (fun i k h => by (try dsimp only at h); rcases h with h | h | h | h | h; exact Or.inl (by first | exact h | omega); exact Or.inr (Or.inl (by first | exact h | omega)); exact Or.inr (Or.inr (Or.inl (by first | exact h | omega))); exact Or.inr (Or.inr (Or.inr (Or.inl (by first | exact h | omega)))); exact Or.inr (Or.inr (Or.inr (Or.inr (by first | exact h | omega))))) (fun i h => by (try dsimp only at h); rcases h with h | h | h | h; exact Or.inl (by first | exact h | omega); exact Or.inr (Or.inl (by first | exact h | omega)); exact Or.inr (Or.inr (Or.inl (by first | exact h | omega))); exact Or.inr (Or.inr (Or.inr (by first | exact h | omega))))) f379 (fun i k h => by (try dsimp only at h); exact Or.inl (by first | exact h | omega)) (fun i h => h.elim)), (show 1 ≤ (z310.1 + (1 : Int32)).toInt by omega), (show (z310.1 + (1 : Int32)).toInt ≤ 6 by omega), (show ((z310.1 + (1 : Int32)).toInt ≤ 5 ∨ (wt_gf r377 108 5).toInt ≠ 0) by omega), (show (wt_gf z29 108 27).toInt ≤ (wt_gf r377 108 27).toInt by omega), (show ((wt_gf r377 108 5).toInt ≠ 0 ∨ (wt_gf z29 108 27).toInt < (wt_gf r377 108 27).toInt) by omega), ri380⟩ ?_
                show (6 - (z310.1 + (1 : Int32)).toInt).toNat < (6 - z310.1.toInt).toNat
                omega
              · skip
                have c393 := wt_nceq h361
                unfold wp_md_tongue_B121
                have k394 : (59 : Int32).toInt = 59 := by decide
                refine wt_T_bi (wq_md_closes n hn (59 : Int32) z310.2 l318 (by first | with_reducible assumption | omega)) (fun r395 h396 => ?_)
                obtain ⟨f397, ri398, pp399⟩ := h396
                have g401 : 0 ≤ (wt_gf r395 108 5).toInt ∧ (wt_gf r395 108 5).toInt ≤ 3 := wt_Rf3 ri398
                refine wt_T_bi (wq_md_blanks n hn r395 ri398) (fun r402 h403 => ?_)
                obtain ⟨f404, ri405, pp406⟩ := h403
                have g408 : 0 ≤ (wt_gf r395 108 4).toInt ∧ (wt_gf r395 108 4).toInt ≤ 500 := wt_Rf2 ri398
                have g410 : 0 ≤ (wt_gf r402 108 4).toInt ∧ (wt_gf r402 108 4).toInt ≤ 500 := wt_Rf2 ri405
                have g412 : 0 ≤ (wt_gf r402 108 27).toInt ∧ (wt_gf r402 108 27).toInt ≤ 60 := wt_Rf5 ri405
                have tt413 : (wt_gf r402 108 27).toInt = (wt_gf r395 108 27).toInt := congrArg Int32.toInt (f404.1 108 27 (by (try dsimp only); omega))
                have tt416 : (wt_gf r395 108 27).toInt = (wt_gf z310.2 108 27).toInt := congrArg Int32.toInt (f397.1 108 27 (by (try dsimp only); omega))
                have g418 : 0 ≤ (wt_gf r402 108 5).toInt ∧ (wt_gf r402 108 5).toInt ≤ 3 := wt_Rf3 ri405
                have tt419 : (wt_gf r402 108 5).toInt = (wt_gf r395 108 5).toInt := congrArg Int32.toInt (f404.1 108 5 (by (try dsimp only); omega))
                refine hKK28 _ ⟨(wt_fr.tr (wt_fr.tr (wt_fr.tr (wt_fr.tr (wt_fr.tr (wt_fr.tr wt_fr.rf l31 (fun i k h => by (try dsimp only at h); rcases h with h | h | h | h | h; exact Or.inl (by first | exact h | omega); exact Or.inr (Or.inl (by first | exact h | omega)); exact Or.inr (Or.inr (Or.inl (by first | exact h | omega))); exact Or.inr (Or.inr (Or.inr (Or.inl (by first | exact h | omega)))); exact Or.inr (Or.inr (Or.inr (Or.inr (by first | exact h | omega))))) (fun i h => by (try dsimp only at h); rcases h with h | h | h | h; exact Or.inl (by first | exact h | omega); exact Or.inr (Or.inl (by first | exact h | omega)); exact Or.inr (Or.inr (Or.inl (by first | exact h | omega))); exact Or.inr (Or.inr (Or.inr (by first | exact h | omega))))) f293 (fun i k h => by (try dsimp only at h); rcases h with h | h | h | h | h; exact Or.inl (by first | exact h | omega); exact Or.inr (Or.inl (by first | exact h | omega)); exact Or.inr (Or.inr (Or.inl (by first | exact h | omega))); exact Or.inr (Or.inr (Or.inr (Or.inl (by first | exact h | omega)))); exact Or.inr (Or.inr (Or.inr (Or.inr (by first | exact h | omega))))) (fun i h => by (try dsimp only at h); rcases h with h | h | h | h; exact Or.inl (by first | exact h | omega); exact Or.inr (Or.inl (by first | exact h | omega)); exact Or.inr (Or.inr (Or.inl (by first | exact h | omega))); exact Or.inr (Or.inr (Or.inr (by first | exact h | omega))))) f302 (fun i k h => by (try dsimp only at h); exact Or.inl (by first | exact h | omega)) (fun i h => h.elim)) l312 (fun i k h => by (try dsimp only at h); rcases h with h | h | h | h | h; exact Or.inl (by first | exact h | omega); exact Or.inr (Or.inl (by first | exact h | omega)); exact Or.inr (Or.inr (Or.inl (by first | exact h | omega))); exact Or.inr (Or.inr (Or.inr (Or.inl (by first | exact h | omega)))); exact Or.inr (Or.inr (Or.inr (Or.inr (by first | exact h | omega))))) (fun i h => by (try dsimp only at h); rcases h with h | h | h | h; exact Or.inl (by first | exact h | omega); exact Or.inr (Or.inl (by first | exact h | omega)); exact Or.inr (Or.inr (Or.inl (by first | exact h | omega))); exact Or.inr (Or.inr (Or.inr (by first | exact h | omega))))) f397 (fun i k h => by (try dsimp only at h); rcases h with h | h | h; exact Or.inl (by first | exact h | omega); exact Or.inr (Or.inl (by first | exact h | omega)); exact Or.inr (Or.inr (Or.inl (by first | exact h | omega)))) (fun i h => h.elim)) f404 (fun i k h => by (try dsimp only at h); exact Or.inl (by first | exact h | omega)) (fun i h => h.elim)), ri405⟩ ?_
                show (4 * (60 - (wt_gf r402 108 27).toInt) + 3 - (wt_gf r402 108 5).toInt).toNat < (4 * (60 - (wt_gf z29 108 27).toInt) + 3 - (wt_gf z29 108 5).toInt).toNat
                omega
            · skip
              have c420 := wt_nceq h324
              unfold wp_md_tongue_B121
              have k421 : (59 : Int32).toInt = 59 := by decide
              refine wt_T_bi (wq_md_closes n hn (59 : Int32) z310.2 l318 (by first | with_reducible assumption | omega)) (fun r422 h423 => ?_)
              obtain ⟨f424, ri425, pp426⟩ := h423
              have g428 : 0 ≤ (wt_gf r422 108 5).toInt ∧ (wt_gf r422 108 5).toInt ≤ 3 := wt_Rf3 ri425
              refine wt_T_bi (wq_md_blanks n hn r422 ri425) (fun r429 h430 => ?_)
              obtain ⟨f431, ri432, pp433⟩ := h430
              have g435 : 0 ≤ (wt_gf r422 108 4).toInt ∧ (wt_gf r422 108 4).toInt ≤ 500 := wt_Rf2 ri425
              have g437 : 0 ≤ (wt_gf r429 108 4).toInt ∧ (wt_gf r429 108 4).toInt ≤ 500 := wt_Rf2 ri432
              have g439 : 0 ≤ (wt_gf r429 108 27).toInt ∧ (wt_gf r429 108 27).toInt ≤ 60 := wt_Rf5 ri432
              have tt440 : (wt_gf r429 108 27).toInt = (wt_gf r422 108 27).toInt := congrArg Int32.toInt (f431.1 108 27 (by (try dsimp only); omega))
              have tt443 : (wt_gf r422 108 27).toInt = (wt_gf z310.2 108 27).toInt := congrArg Int32.toInt (f424.1 108 27 (by (try dsimp only); omega))
              have g445 : 0 ≤ (wt_gf r429 108 5).toInt ∧ (wt_gf r429 108 5).toInt ≤ 3 := wt_Rf3 ri432
              have tt446 : (wt_gf r429 108 5).toInt = (wt_gf r422 108 5).toInt := congrArg Int32.toInt (f431.1 108 5 (by (try dsimp only); omega))
              refine hKK28 _ ⟨(wt_fr.tr (wt_fr.tr (wt_fr.tr (wt_fr.tr (wt_fr.tr (wt_fr.tr wt_fr.rf l31 (fun i k h => by (try dsimp only at h); rcases h with h | h | h | h | h; exact Or.inl (by first | exact h | omega); exact Or.inr (Or.inl (by first | exact h | omega)); exact Or.inr (Or.inr (Or.inl (by first | exact h | omega))); exact Or.inr (Or.inr (Or.inr (Or.inl (by first | exact h | omega)))); exact Or.inr (Or.inr (Or.inr (Or.inr (by first | exact h | omega))))) (fun i h => by (try dsimp only at h); rcases h with h | h | h | h; exact Or.inl (by first | exact h | omega); exact Or.inr (Or.inl (by first | exact h | omega)); exact Or.inr (Or.inr (Or.inl (by first | exact h | omega))); exact Or.inr (Or.inr (Or.inr (by first | exact h | omega))))) f293 (fun i k h => by (try dsimp only at h); rcases h with h | h | h | h | h; exact Or.inl (by first | exact h | omega); exact Or.inr (Or.inl (by first | exact h | omega)); exact Or.inr (Or.inr (Or.inl (by first | exact h | omega))); exact Or.inr (Or.inr (Or.inr (Or.inl (by first | exact h | omega)))); exact Or.inr (Or.inr (Or.inr (Or.inr (by first | exact h | omega))))) (fun i h => by (try dsimp only at h); rcases h with h | h | h | h; exact Or.inl (by first | exact h | omega); exact Or.inr (Or.inl (by first | exact h | omega)); exact Or.inr (Or.inr (Or.inl (by first | exact h | omega))); exact Or.inr (Or.inr (Or.inr (by first | exact h | omega))))) f302 (fun i k h => by (try dsimp only at h); exact Or.inl (by first | exact h | omega)) (fun i h => h.elim)) l312 (fun i k h => by (try dsimp only at h); rcases h with h | h | h | h | h; exact Or.inl (by first | exact h | omega); exact Or.inr (Or.inl (by first | exact h | omega)); exact Or.inr (Or.inr (Or.inl (by first | exact h | omega))); exact Or.inr (Or.inr (Or.inr (Or.inl (by first | exact h | omega)))); exact Or.inr (Or.inr (Or.inr (Or.inr (by first | exact h | omega))))) (fun i h => by (try dsimp only at h); rcases h with h | h | h | h; exact Or.inl (by first | exact h | omega); exact Or.inr (Or.inl (by first | exact h | omega)); exact Or.inr (Or.inr (Or.inl (by first | exact h | omega))); exact Or.inr (Or.inr (Or.inr (by first | exact h | omega))))) f424 (fun i k h => by (try dsimp only at h); rcases h with h | h | h; exact Or.inl (by first | exact h | omega); exact Or.inr (Or.inl (by first | exact h | omega)); exact Or.inr (Or.inr (Or.inl (by first | exact h | omega)))) (fun i h => h.elim)) f431 (fun i k h => by (try dsimp only at h); exact Or.inl (by first | exact h | omega)) (fun i h => h.elim)), ri432⟩ ?_
              show (4 * (60 - (wt_gf r429 108 27).toInt) + 3 - (wt_gf r429 108 5).toInt).toNat < (4 * (60 - (wt_gf z29 108 27).toInt) + 3 - (wt_gf z29 108 5).toInt).toNat
              omega
          · skip
            have g448 : 0 ≤ (wt_gf r300 108 5).toInt ∧ (wt_gf r300 108 5).toInt ≤ 3 := wt_Rf3 ri303
            have tt449 : (wt_gf r300 108 5).toInt = (wt_gf r291 108 5).toInt := congrArg Int32.toInt (f302.1 108 5 (by (try dsimp only); omega))
            have g451 : 0 ≤ (wt_gf r300 108 27).toInt ∧ (wt_gf r300 108 27).toInt ≤ 60 := wt_Rf5 ri303
            have tt452 : (wt_gf r300 108 27).toInt = (wt_gf r291 108 27).toInt := congrArg Int32.toInt (f302.1 108 27 (by (try dsimp only); omega))
            exact ⟨wt_fr.rf, (show 1 ≤ (1 : Int32).toInt by omega), (show (1 : Int32).toInt ≤ 6 by omega), (show ((1 : Int32).toInt ≤ 5 ∨ (wt_gf r300 108 5).toInt ≠ 0) by omega), (show (wt_gf z29 108 27).toInt ≤ (wt_gf r300 108 27).toInt by omega), (show ((wt_gf r300 108 5).toInt ≠ 0 ∨ (wt_gf z29 108 27).toInt < (wt_gf r300 108 27).toInt) by omega), ri303⟩
          · skip
            show (6 - (1 : Int32).toInt).toNat < n
            omega
      · skip
        have c453 := wt_nceq h37
        unfold wp_md_tongue_B134
        obtain ⟨σ454, eσ454⟩ : ∃ z : wt_St, z = wt_sf z29 108 3 (wt_gf z29 108 6) := ⟨_, rfl⟩
        rw [← eσ454]
        have fσ454 := wt_fr_sf eσ454
        have vσ454 := wt_ceq (wt_v_sf eσ454)
        have bb455 := wt_bd (wt_gf z29 108 6)
        have rσ454 := wt_RI_fno l32 eσ454 (Or.inr (by decide +kernel))
        have g457 : 0 ≤ (wt_gf σ454 108 5).toInt ∧ (wt_gf σ454 108 5).toInt ≤ 3 := wt_Rf3 rσ454
        have tt458 : (wt_gf σ454 108 5).toInt = (wt_gf z29 108 5).toInt := congrArg Int32.toInt (fσ454.1 108 5 (by (try dsimp only); omega))
        refine wt_T_if (fun h459 => ?_) (fun h459 => ?_)
        · skip
          have c460 := wt_ceq h459
          obtain ⟨σ461, eσ461⟩ : ∃ z : wt_St, z = wt_sf σ454 108 28 (wt_gf σ454 108 27) := ⟨_, rfl⟩
          rw [← eσ461]
          have fσ461 := wt_fr_sf eσ461
          have vσ461 := wt_ceq (wt_v_sf eσ461)
          have g463 : 0 ≤ (wt_gf σ454 108 27).toInt ∧ (wt_gf σ454 108 27).toInt ≤ 60 := wt_Rf5 rσ454
          have tt464 : (wt_gf σ454 108 27).toInt = (wt_gf z29 108 27).toInt := congrArg Int32.toInt (fσ454.1 108 27 (by (try dsimp only); omega))
          have rσ461 := wt_Rm6 rσ454 eσ461 (show 0 ≤ (wt_gf σ454 108 27).toInt by omega) (show (wt_gf σ454 108 27).toInt ≤ 60 by omega)
          obtain ⟨σ465, eσ465⟩ : ∃ z : wt_St, z = wt_sf σ461 108 30 (wt_gf σ461 108 29) := ⟨_, rfl⟩
          rw [← eσ465]
          have fσ465 := wt_fr_sf eσ465
          have vσ465 := wt_ceq (wt_v_sf eσ465)
          have bb466 := wt_bd (wt_gf σ461 108 29)
          have tt467 : (wt_gf σ461 108 29).toInt = (wt_gf σ454 108 29).toInt := congrArg Int32.toInt (fσ461.1 108 29 (by (try dsimp only); omega))
          have bb468 := wt_bd (wt_gf σ454 108 29)
          have tt469 : (wt_gf σ454 108 29).toInt = (wt_gf z29 108 29).toInt := congrArg Int32.toInt (fσ454.1 108 29 (by (try dsimp only); omega))
          have bb470 := wt_bd (wt_gf z29 108 29)
          have rσ465 := wt_RI_fno rσ461 eσ465 (Or.inr (by decide +kernel))
          refine wt_T_it (fun s : Int32 × wt_St => wt_fr (fun i k => False) (fun i => i = 126 ∨ i = 128 ∨ i = 130 ∨ (193 ≤ i ∧ i < 253)) σ465 s.2 ∧ 0 ≤ (s.1).toInt ∧ wt_RI s.2) (fun s : Int32 × wt_St => ((wt_gf s.2 108 28).toInt - s.1.toInt + 0).toNat) (fun KK471 z472 I473 hKK471 => ?_) _ _ ?_ ?_
          · skip
            obtain ⟨l474, l475, l476⟩ := I473
            unfold wp_md_tongue_B175
            have g478 : 0 ≤ (wt_gf z472.2 108 28).toInt ∧ (wt_gf z472.2 108 28).toInt ≤ 60 := wt_Rf6 l476
            have tt479 : (wt_gf z472.2 108 28).toInt = (wt_gf σ465 108 28).toInt := congrArg Int32.toInt (l474.1 108 28 (fun z => z))
            have tt482 : (wt_gf σ465 108 28).toInt = (wt_gf σ461 108 28).toInt := congrArg Int32.toInt (fσ465.1 108 28 (by (try dsimp only); omega))
            have bb485 := wt_bd z472.1
            refine wt_T_if (fun h486 => ?_) (fun h486 => ?_)
            · skip
              have c487 := wt_cle h486
              obtain ⟨σ488, eσ488⟩ : ∃ z : wt_St, z = wt_sf z472.2 108 39 (0 : Int32) := ⟨_, rfl⟩
              rw [← eσ488]
              have fσ488 := wt_fr_sf eσ488
              have vσ488 := wt_ceq (wt_v_sf eσ488)
              have rσ488 := wt_Rm7 l476 eσ488 (show 0 ≤ ((0 : Int32)).toInt by omega) (show ((0 : Int32)).toInt ≤ 8 by omega)
              obtain ⟨σ489, eσ489⟩ : ∃ z : wt_St, z = wt_sf σ488 108 40 (0 : Int32) := ⟨_, rfl⟩
              rw [← eσ489]
              have fσ489 := wt_fr_sf eσ489
              have vσ489 := wt_ceq (wt_v_sf eσ489)
              have rσ489 := wt_Rm8 rσ488 eσ489 (show 0 ≤ ((0 : Int32)).toInt by omega) (show ((0 : Int32)).toInt ≤ 10 by omega)
              obtain ⟨σ490, eσ490⟩ : ∃ z : wt_St, z = wt_sf σ489 108 41 (0 : Int32) := ⟨_, rfl⟩
              rw [← eσ490]
              have fσ490 := wt_fr_sf eσ490
              have vσ490 := wt_ceq (wt_v_sf eσ490)
              have rσ490 := wt_Rm9 rσ489 eσ490 (show 0 ≤ ((0 : Int32)).toInt by omega) (show ((0 : Int32)).toInt ≤ 3 by omega)
              refine wt_T_it (fun s : Int32 × wt_St => wt_fr (fun i k => False) (fun i => i = 275 ∨ i = 124) σ490 s.2 ∧ 0 ≤ (s.1).toInt ∧ wt_RI s.2) (fun s : Int32 × wt_St => ((4 : Int32).toInt - s.1.toInt + 0).toNat) (fun KK491 z492 I493 hKK491 => ?_) _ _ ?_ ?_
              · skip
                obtain ⟨l494, l495, l496⟩ := I493
                unfold wp_md_tongue_B272
                have k497 : (4 : Int32).toInt = 4 := by decide
                have bb498 := wt_bd z492.1
                refine wt_T_if (fun h499 => ?_) (fun h499 => ?_)
                · skip
                  have c500 := wt_cle h499
                  refine wt_T_some ?_
                  have g502 : 0 ≤ (wt_gf z492.2 108 28).toInt ∧ (wt_gf z492.2 108 28).toInt ≤ 60 := wt_Rf6 l496
                  have tt503 : (wt_gf z492.2 108 28).toInt = (wt_gf σ490 108 28).toInt := congrArg Int32.toInt (l494.1 108 28 (fun z => z))
                  have tt506 : (wt_gf σ490 108 28).toInt = (wt_gf σ489 108 28).toInt := congrArg Int32.toInt (fσ490.1 108 28 (by (try dsimp only); omega))
                  have tt509 : (wt_gf σ489 108 28).toInt = (wt_gf σ488 108 28).toInt := congrArg Int32.toInt (fσ489.1 108 28 (by (try dsimp only); omega))
                  have tt512 : (wt_gf σ488 108 28).toInt = (wt_gf z472.2 108 28).toInt := congrArg Int32.toInt (fσ488.1 108 28 (by (try dsimp only); omega))
                  have g514 : 0 ≤ (wt_gf z492.2 108 1).toInt ∧ (wt_gf z492.2 108 1).toInt ≤ 500 := wt_Rf0 l496
                  have tt515 : (wt_gf z492.2 108 1).toInt = (wt_gf σ490 108 1).toInt := congrArg Int32.toInt (l494.1 108 1 (fun z => z))
                  have tt518 : (wt_gf σ490 108 1).toInt = (wt_gf σ489 108 1).toInt := congrArg Int32.toInt (fσ490.1 108 1 (by (try dsimp only); omega))
                  have tt521 : (wt_gf σ489 108 1).toInt = (wt_gf σ488 108 1).toInt := congrArg Int32.toInt (fσ489.1 108 1 (by (try dsimp only); omega))
                  have tt524 : (wt_gf σ488 108 1).toInt = (wt_gf z472.2 108 1).toInt := congrArg Int32.toInt (fσ488.1 108 1 (by (try dsimp only); omega))
                  have tt527 : (wt_gf z472.2 108 1).toInt = (wt_gf σ465 108 1).toInt := congrArg Int32.toInt (l474.1 108 1 (fun z => z))
                  have tt530 : (wt_gf σ465 108 1).toInt = (wt_gf σ461 108 1).toInt := congrArg Int32.toInt (fσ465.1 108 1 (by (try dsimp only); omega))
                  have tt533 : (wt_gf σ461 108 1).toInt = (wt_gf σ454 108 1).toInt := congrArg Int32.toInt (fσ461.1 108 1 (by (try dsimp only); omega))
                  have tt536 : (wt_gf σ454 108 1).toInt = (wt_gf z29 108 1).toInt := congrArg Int32.toInt (fσ454.1 108 1 (by (try dsimp only); omega))
                  have tt539 : (wt_gf z29 108 1).toInt = (wt_gf σ27 108 1).toInt := congrArg Int32.toInt (l31.1 108 1 (by (try dsimp only); omega))
                  have tt542 : (wt_gf σ27 108 1).toInt = (wt_gf σ26 108 1).toInt := congrArg Int32.toInt (fσ27.1 108 1 (by (try dsimp only); omega))
                  have tt545 : (wt_gf σ26 108 1).toInt = (wt_gf r15 108 1).toInt := congrArg Int32.toInt (fσ26.1 108 1 (by (try dsimp only); omega))
                  have g547 : 0 ≤ (wt_gf σ 108 1).toInt ∧ (wt_gf σ 108 1).toInt ≤ 500 := wt_Rf0 r0
                  exact ⟨(wt_fr.tr (wt_fr.tr (wt_fr.tr (wt_fr.tr (wt_fr.tr (wt_fr.tr (wt_fr.tr (wt_fr.tr (wt_fr.tr (wt_fr.tr (wt_fr.tr (wt_fr.tr (wt_fr.tr wt_fr.rf f6 (fun i k h => by (try dsimp only at h); exact Or.inl (by first | exact h | omega)) (fun i h => h.elim)) f17 (fun i k h => by (try dsimp only at h); rcases h with h | h | h | h | h | h; exact Or.inr (Or.inl (by first | exact h | omega)); exact Or.inr (Or.inr (Or.inl (by first | exact h | omega))); exact Or.inr (Or.inr (Or.inr (Or.inl (by first | exact h | omega)))); exact Or.inr (Or.inr (Or.inr (Or.inr (Or.inl (by first | exact h | omega))))); exact Or.inr (Or.inr (Or.inr (Or.inr (Or.inr (Or.inl (by first | exact h | omega)))))); exact Or.inr (Or.inr (Or.inr (Or.inr (Or.inr (Or.inr (Or.inl (by first | exact h | omega)))))))) (fun i h => h.elim)) fσ26 (fun i k h => by (try dsimp only at h); exact Or.inr (Or.inr (Or.inr (Or.inr (Or.inr (Or.inr (Or.inr (Or.inl (by first | exact h | omega))))))))) (fun i h => h.elim)) fσ27 (fun i k h => by (try dsimp only at h); exact Or.inr (Or.inr (Or.inr (Or.inr (Or.inr (Or.inr (Or.inr (Or.inr (Or.inl (by first | exact h | omega)))))))))) (fun i h => h.elim)) l31 (fun i k h => by (try dsimp only at h); rcases h with h | h | h | h | h; exact Or.inr (Or.inr (Or.inr (Or.inl (by first | exact h | omega)))); exact Or.inr (Or.inr (Or.inr (Or.inr (Or.inl (by first | exact h | omega))))); exact Or.inr (Or.inr (Or.inr (Or.inr (Or.inr (Or.inl (by first | exact h | omega)))))); exact Or.inr (Or.inr (Or.inr (Or.inr (Or.inr (Or.inr (Or.inr (Or.inr (Or.inl (by first | exact h | omega))))))))); exact Or.inr (Or.inr (Or.inr (Or.inr (Or.inr (Or.inr (Or.inr (Or.inl (by first | exact h | omega))))))))) (fun i h => by (try dsimp only at h); rcases h with h | h | h | h; exact Or.inr (Or.inr (Or.inr (Or.inr (Or.inr (Or.inr (Or.inl (by first | exact h | omega))))))); exact Or.inr (Or.inr (Or.inr (Or.inr (Or.inr (Or.inr (Or.inr (Or.inl (by first | exact h | omega)))))))); exact Or.inr (Or.inr (Or.inr (Or.inr (Or.inr (Or.inr (Or.inr (Or.inr (Or.inl (by first | exact h | omega))))))))); exact Or.inr (Or.inr (Or.inr (Or.inr (Or.inr (Or.inr (Or.inr (Or.inr (Or.inr (by first | exact h | omega))))))))))) fσ454 (fun i k h => by (try dsimp only at h); exact Or.inr (Or.inr (Or.inr (Or.inr (Or.inr (Or.inr (Or.inr (Or.inr (Or.inr (Or.inl (by first | exact h | omega))))))))))) (fun i h => h.elim)) fσ461 (fun i k h => by (try dsimp only at h); exact Or.inr (Or.inr (Or.inr (Or.inr (Or.inr (Or.inr (Or.inr (Or.inr (Or.inr (Or.inr (Or.inl (by first | exact h | omega)))))))))))) (fun i h => h.elim)) fσ465 (fun i k h => by (try dsimp only at h); exact Or.inr (Or.inr (Or.inr (Or.inr (Or.inr (Or.inr (Or.inr (Or.inr (Or.inr (Or.inr (Or.inr (Or.inl (by first | exact h | omega))))))))))))) (fun i h => h.elim)) l474 (fun i k h => h.elim) (fun i h => by (try dsimp only at h); rcases h with h | h | h | h; exact Or.inr (Or.inr (Or.inl (by first | exact h | omega))); exact Or.inr (Or.inr (Or.inr (Or.inl (by first | exact h | omega)))); exact Or.inr (Or.inr (Or.inr (Or.inr (Or.inl (by first | exact h | omega))))); exact Or.inr (Or.inr (Or.inr (Or.inr (Or.inr (Or.inl (by first | exact h | omega)))))))) fσ488 (fun i k h => by (try dsimp only at h); exact Or.inr (Or.inr (Or.inr (Or.inr (Or.inr (Or.inr (Or.inr (Or.inr (Or.inr (Or.inr (Or.inr (Or.inr (Or.inl (by first | exact h | omega)))))))))))))) (fun i h => h.elim)) fσ489 (fun i k h => by (try dsimp only at h); exact Or.inr (Or.inr (Or.inr (Or.inr (Or.inr (Or.inr (Or.inr (Or.inr (Or.inr (Or.inr (Or.inr (Or.inr (Or.inr (Or.inl (by first | exact h | omega))))))))))))))) (fun i h => h.elim)) fσ490 (fun i k h => by (try dsimp only at h); exact Or.inr (Or.inr (Or.inr (Or.inr (Or.inr (Or.inr (Or.inr (Or.inr (Or.inr (Or.inr (Or.inr (Or.inr (Or.inr (Or.inr (by first | exact h | omega))))))))))))))) (fun i h => h.elim)) l494 (fun i k h => h.elim) (fun i h => by (try dsimp only at h); rcases h with h | h; exact Or.inl (by first | exact h | omega); exact Or.inr (Or.inl (by first | exact h | omega)))), l496, (show ((y1.toInt ≠ 0 → (wt_gf z492.2 108 1).toInt = (wt_gf σ 108 1).toInt) ∧ (y1.toInt = 0 ∧ (wt_gf σ 108 0).toInt = 0 → (wt_gf z492.2 108 1).toInt = 0)) from by omega)⟩
                · skip
                  have c548 := wt_ncle h499
                  refine wt_T_gd (wt_ix (by first | with_reducible assumption | omega) (by first | with_reducible assumption | omega)) ?_
                  have bb549 := wt_tn z492.1
                  have g551 : -1 ≤ (wt_ga z492.2 275 (Int32.toNatClampNeg z492.1)).toInt ∧ (wt_ga z492.2 275 (Int32.toNatClampNeg z492.1)).toInt ≤ 7 := wt_Ra12 l496 275 (by decide) (by decide) (Int32.toNatClampNeg z492.1)
                  refine wt_T_if (fun h552 => ?_) (fun h552 => ?_)
                  · skip
                    have c553 := wt_ceq h552
                    rw [wt_lm1] at c553
                    unfold wp_md_tongue_B292
                    refine hKK491 _ ⟨(wt_fr.tr wt_fr.rf l494 (fun i k h => h.elim) (fun i h => by (try dsimp only at h); rcases h with h | h; exact Or.inl (by first | exact h | omega); exact Or.inr (by first | exact h | omega))), (wt_nn (B := (4 : Int32)) (by first | with_reducible assumption | omega) (by first | with_reducible assumption | omega)), l496⟩ ?_
                    show ((4 : Int32).toInt - (z492.1 + (1 : Int32)).toInt + 0).toNat < ((4 : Int32).toInt - z492.1.toInt + 0).toNat
                    exact wt_mu (by first | with_reducible assumption | omega) (by first | with_reducible assumption | omega)
                  · skip
                    have c554 := wt_nceq h552
                    rw [wt_lm1] at c554
                    refine wt_T_bi (wq_md_takesApart n hn z492.1 z492.2 l496 (by first | with_reducible assumption | omega) (by first | with_reducible assumption | omega)) (fun r555 h556 => ?_)
                    obtain ⟨f557, ri558⟩ := h556
                    unfold wp_md_tongue_B292
                    refine hKK491 _ ⟨(wt_fr.tr (wt_fr.tr wt_fr.rf l494 (fun i k h => h.elim) (fun i h => by (try dsimp only at h); rcases h with h | h; exact Or.inl (by first | exact h | omega); exact Or.inr (by first | exact h | omega))) f557 (fun i k h => h.elim) (fun i h => by (try dsimp only at h); rcases h with h | h; exact Or.inl (by first | exact h | omega); exact Or.inr (by first | exact h | omega))), (wt_nn (B := (4 : Int32)) (by first | with_reducible assumption | omega) (by first | with_reducible assumption | omega)), ri558⟩ ?_
                    show ((4 : Int32).toInt - (z492.1 + (1 : Int32)).toInt + 0).toNat < ((4 : Int32).toInt - z492.1.toInt + 0).toNat
                    exact wt_mu (by first | with_reducible assumption | omega) (by first | with_reducible assumption | omega)
              · skip
                have k559 : (4 : Int32).toInt = 4 := by decide
                exact ⟨wt_fr.rf, (show 0 ≤ ((0 : Int32)).toInt by omega), rσ490⟩
              · skip
                have k560 : (4 : Int32).toInt = 4 := by decide
                show ((4 : Int32).toInt - (0 : Int32).toInt + 0).toNat < n
                omega
            · skip
              have c561 := wt_ncle h486
              refine wt_T_gd (wt_ix (by first | with_reducible assumption | omega) (by first | with_reducible assumption | omega)) ?_
              refine wt_T_gd (wt_ix (by first | with_reducible assumption | omega) (by first | with_reducible assumption | omega)) ?_
              refine wt_T_gd (wt_ix (by first | with_reducible assumption | omega) (by first | with_reducible assumption | omega)) ?_
              refine wt_T_gd (wt_ix (by first | with_reducible assumption | omega) (by first | with_reducible assumption | omega)) ?_
              refine wt_T_gd (wt_ix (by first | with_reducible assumption | omega) (by first | with_reducible assumption | omega)) ?_
              refine wt_T_gd (wt_ix (by first | with_reducible assumption | omega) (by first | with_reducible assumption | omega)) ?_
              obtain ⟨σ562, eσ562⟩ : ∃ z : wt_St, z = wt_sa z472.2 126 (Int32.toNatClampNeg z472.1) (wt_ga z472.2 125 (Int32.toNatClampNeg z472.1)) := ⟨_, rfl⟩
              rw [← eσ562]
              have fσ562 := wt_fr_sa eσ562
              have vσ562 := wt_ceq (wt_v_sa eσ562)
              have bb563 := wt_tn z472.1
              have g565 : 0 ≤ (wt_ga z472.2 125 (Int32.toNatClampNeg z472.1)).toInt ∧ (wt_ga z472.2 125 (Int32.toNatClampNeg z472.1)).toInt ≤ 9 := wt_Ra5 l476 125 (by decide) (by decide) (Int32.toNatClampNeg z472.1)
              have tt566 : (wt_ga z472.2 125 (Int32.toNatClampNeg z472.1)).toInt = (wt_ga σ465 125 (Int32.toNatClampNeg z472.1)).toInt := congrArg Int32.toInt (l474.2 125 (by (try dsimp only); omega) (Int32.toNatClampNeg z472.1))
              have tt569 : (wt_ga σ465 125 (Int32.toNatClampNeg z472.1)).toInt = (wt_ga σ461 125 (Int32.toNatClampNeg z472.1)).toInt := congrArg Int32.toInt (fσ465.2 125 (fun z => z) (Int32.toNatClampNeg z472.1))
              have tt572 : (wt_ga σ461 125 (Int32.toNatClampNeg z472.1)).toInt = (wt_ga σ454 125 (Int32.toNatClampNeg z472.1)).toInt := congrArg Int32.toInt (fσ461.2 125 (fun z => z) (Int32.toNatClampNeg z472.1))
              have tt575 : (wt_ga σ454 125 (Int32.toNatClampNeg z472.1)).toInt = (wt_ga z29 125 (Int32.toNatClampNeg z472.1)).toInt := congrArg Int32.toInt (fσ454.2 125 (fun z => z) (Int32.toNatClampNeg z472.1))
              have rσ562 := wt_Rn5 l476 eσ562 (by decide) (by decide) (show 0 ≤ (wt_ga z472.2 125 (Int32.toNatClampNeg z472.1)).toInt by omega) (show (wt_ga z472.2 125 (Int32.toNatClampNeg z472.1)).toInt ≤ 9 by omega)
              obtain ⟨σ578, eσ578⟩ : ∃ z : wt_St, z = wt_sa σ562 128 (Int32.toNatClampNeg z472.1) (wt_ga σ562 127 (Int32.toNatClampNeg z472.1)) := ⟨_, rfl⟩
              rw [← eσ578]
              have fσ578 := wt_fr_sa eσ578
              have vσ578 := wt_ceq (wt_v_sa eσ578)
              have g580 : 0 ≤ (wt_ga σ562 127 (Int32.toNatClampNeg z472.1)).toInt ∧ (wt_ga σ562 127 (Int32.toNatClampNeg z472.1)).toInt ≤ 3 := wt_Ra6 rσ562 127 (by decide) (by decide) (Int32.toNatClampNeg z472.1)
              have tt581 : (wt_ga σ562 127 (Int32.toNatClampNeg z472.1)).toInt = (wt_ga z472.2 127 (Int32.toNatClampNeg z472.1)).toInt := congrArg Int32.toInt (fσ562.2 127 (by (try dsimp only); omega) (Int32.toNatClampNeg z472.1))
              have tt584 : (wt_ga z472.2 127 (Int32.toNatClampNeg z472.1)).toInt = (wt_ga σ465 127 (Int32.toNatClampNeg z472.1)).toInt := congrArg Int32.toInt (l474.2 127 (by (try dsimp only); omega) (Int32.toNatClampNeg z472.1))
              have tt587 : (wt_ga σ465 127 (Int32.toNatClampNeg z472.1)).toInt = (wt_ga σ461 127 (Int32.toNatClampNeg z472.1)).toInt := congrArg Int32.toInt (fσ465.2 127 (fun z => z) (Int32.toNatClampNeg z472.1))
              have tt590 : (wt_ga σ461 127 (Int32.toNatClampNeg z472.1)).toInt = (wt_ga σ454 127 (Int32.toNatClampNeg z472.1)).toInt := congrArg Int32.toInt (fσ461.2 127 (fun z => z) (Int32.toNatClampNeg z472.1))
              have tt593 : (wt_ga σ454 127 (Int32.toNatClampNeg z472.1)).toInt = (wt_ga z29 127 (Int32.toNatClampNeg z472.1)).toInt := congrArg Int32.toInt (fσ454.2 127 (fun z => z) (Int32.toNatClampNeg z472.1))
              have rσ578 := wt_Rn6 rσ562 eσ578 (by decide) (by decide) (show 0 ≤ (wt_ga σ562 127 (Int32.toNatClampNeg z472.1)).toInt by omega) (show (wt_ga σ562 127 (Int32.toNatClampNeg z472.1)).toInt ≤ 3 by omega)
              obtain ⟨σ596, eσ596⟩ : ∃ z : wt_St, z = wt_sa σ578 130 (Int32.toNatClampNeg z472.1) (wt_ga σ578 129 (Int32.toNatClampNeg z472.1)) := ⟨_, rfl⟩
              rw [← eσ596]
              have fσ596 := wt_fr_sa eσ596
              have vσ596 := wt_ceq (wt_v_sa eσ596)
              have bb597 := wt_bd (wt_ga σ578 129 (Int32.toNatClampNeg z472.1))
              have tt598 : (wt_ga σ578 129 (Int32.toNatClampNeg z472.1)).toInt = (wt_ga σ562 129 (Int32.toNatClampNeg z472.1)).toInt := congrArg Int32.toInt (fσ578.2 129 (by (try dsimp only); omega) (Int32.toNatClampNeg z472.1))
              have bb599 := wt_bd (wt_ga σ562 129 (Int32.toNatClampNeg z472.1))
              have tt600 : (wt_ga σ562 129 (Int32.toNatClampNeg z472.1)).toInt = (wt_ga z472.2 129 (Int32.toNatClampNeg z472.1)).toInt := congrArg Int32.toInt (fσ562.2 129 (by (try dsimp only); omega) (Int32.toNatClampNeg z472.1))
              have bb601 := wt_bd (wt_ga z472.2 129 (Int32.toNatClampNeg z472.1))
              have tt602 : (wt_ga z472.2 129 (Int32.toNatClampNeg z472.1)).toInt = (wt_ga σ465 129 (Int32.toNatClampNeg z472.1)).toInt := congrArg Int32.toInt (l474.2 129 (by (try dsimp only); omega) (Int32.toNatClampNeg z472.1))
              have bb603 := wt_bd (wt_ga σ465 129 (Int32.toNatClampNeg z472.1))
              have tt604 : (wt_ga σ465 129 (Int32.toNatClampNeg z472.1)).toInt = (wt_ga σ461 129 (Int32.toNatClampNeg z472.1)).toInt := congrArg Int32.toInt (fσ465.2 129 (fun z => z) (Int32.toNatClampNeg z472.1))
              have bb605 := wt_bd (wt_ga σ461 129 (Int32.toNatClampNeg z472.1))
              have tt606 : (wt_ga σ461 129 (Int32.toNatClampNeg z472.1)).toInt = (wt_ga σ454 129 (Int32.toNatClampNeg z472.1)).toInt := congrArg Int32.toInt (fσ461.2 129 (fun z => z) (Int32.toNatClampNeg z472.1))
              have bb607 := wt_bd (wt_ga σ454 129 (Int32.toNatClampNeg z472.1))
              have tt608 : (wt_ga σ454 129 (Int32.toNatClampNeg z472.1)).toInt = (wt_ga z29 129 (Int32.toNatClampNeg z472.1)).toInt := congrArg Int32.toInt (fσ454.2 129 (fun z => z) (Int32.toNatClampNeg z472.1))
              have bb609 := wt_bd (wt_ga z29 129 (Int32.toNatClampNeg z472.1))
              have rσ596 := wt_RI_no rσ578 eσ596 130 131 (by decide +kernel) (by decide) (by decide)
              refine wt_T_it (fun s : Int32 × wt_St => wt_fr (fun i k => False) (fun i => (193 ≤ i ∧ i < 253)) σ596 s.2 ∧ 0 ≤ (s.1).toInt ∧ wt_RI s.2) (fun s : Int32 × wt_St => ((9 : Int32).toInt - s.1.toInt + 0).toNat) (fun KK610 z611 I612 hKK610 => ?_) _ _ ?_ ?_
              · skip
                obtain ⟨l613, l614, l615⟩ := I612
                unfold wp_md_tongue_B221
                have k616 : (9 : Int32).toInt = 9 := by decide
                have bb617 := wt_bd z611.1
                refine wt_T_if (fun h618 => ?_) (fun h618 => ?_)
                · skip
                  have c619 := wt_cle h618
                  have g621 : 0 ≤ (wt_gf z611.2 108 28).toInt ∧ (wt_gf z611.2 108 28).toInt ≤ 60 := wt_Rf6 l615
                  have tt622 : (wt_gf z611.2 108 28).toInt = (wt_gf σ596 108 28).toInt := congrArg Int32.toInt (l613.1 108 28 (fun z => z))
                  have tt625 : (wt_gf σ596 108 28).toInt = (wt_gf σ578 108 28).toInt := congrArg Int32.toInt (fσ596.1 108 28 (fun z => z))
                  have tt628 : (wt_gf σ578 108 28).toInt = (wt_gf σ562 108 28).toInt := congrArg Int32.toInt (fσ578.1 108 28 (fun z => z))
                  have tt631 : (wt_gf σ562 108 28).toInt = (wt_gf z472.2 108 28).toInt := congrArg Int32.toInt (fσ562.1 108 28 (fun z => z))
                  refine hKK471 _ ⟨(wt_fr.tr (wt_fr.tr (wt_fr.tr (wt_fr.tr (wt_fr.tr wt_fr.rf l474 (fun i k h => h.elim) (fun i h => by (try dsimp only at h); rcases h with h | h | h | h; exact Or.inl (by first | exact h | omega); exact Or.inr (Or.inl (by first | exact h | omega)); exact Or.inr (Or.inr (Or.inl (by first | exact h | omega))); exact Or.inr (Or.inr (Or.inr (by first | exact h | omega))))) fσ562 (fun i k h => h.elim) (fun i h => by (try dsimp only at h); exact Or.inl (by first | exact h | omega))) fσ578 (fun i k h => h.elim) (fun i h => by (try dsimp only at h); exact Or.inr (Or.inl (by first | exact h | omega)))) fσ596 (fun i k h => h.elim) (fun i h => by (try dsimp only at h); exact Or.inr (Or.inr (Or.inl (by first | exact h | omega))))) l613 (fun i k h => h.elim) (fun i h => by (try dsimp only at h); exact Or.inr (Or.inr (Or.inr (by first | exact h | omega))))), (wt_nn (B := wt_gf z472.2 108 28) (by first | with_reducible assumption | omega) (by first | with_reducible assumption | omega)), l615⟩ ?_
                  show ((wt_gf z611.2 108 28).toInt - (z472.1 + (1 : Int32)).toInt + 0).toNat < ((wt_gf z472.2 108 28).toInt - z472.1.toInt + 0).toNat
                  exact wt_mu (by first | with_reducible assumption | omega) (by first | with_reducible assumption | omega)
                · skip
                  have c632 := wt_ncle h618
                  refine wt_T_gd (wt_ix (by first | with_reducible assumption | omega) (by first | with_reducible assumption | omega)) ?_
                  refine wt_T_gd (wt_ix (by first | with_reducible assumption | omega) (by first | with_reducible assumption | omega)) ?_
                  refine wt_T_gd (wt_ix (by first | with_reducible assumption | omega) (by first | with_reducible assumption | omega)) ?_
                  refine wt_T_gd (wt_ix (by first | with_reducible assumption | omega) (by first | with_reducible assumption | omega)) ?_
                  obtain ⟨σ633, eσ633⟩ : ∃ z : wt_St, z = wt_sa z611.2 (193 + (Int32.toNatClampNeg z472.1)) (Int32.toNatClampNeg z611.1) (wt_ga z611.2 (132 + (Int32.toNatClampNeg z472.1)) (Int32.toNatClampNeg z611.1)) := ⟨_, rfl⟩
                  rw [← eσ633]
                  have fσ633 := wt_fr_sa eσ633
                  have vσ633 := wt_ceq (wt_v_sa eσ633)
                  have bb634 := wt_tn z611.1
                  have g636 : 0 ≤ (wt_ga z611.2 (132 + (Int32.toNatClampNeg z472.1)) (Int32.toNatClampNeg z611.1)).toInt ∧ (wt_ga z611.2 (132 + (Int32.toNatClampNeg z472.1)) (Int32.toNatClampNeg z611.1)).toInt ≤ 25 := wt_Ra7 l615 (132 + (Int32.toNatClampNeg z472.1)) (show 132 ≤ 132 + (Int32.toNatClampNeg z472.1) by omega) (show 132 + (Int32.toNatClampNeg z472.1) < 192 by omega) (Int32.toNatClampNeg z611.1)
                  have tt637 : (wt_ga z611.2 (132 + (Int32.toNatClampNeg z472.1)) (Int32.toNatClampNeg z611.1)).toInt = (wt_ga σ596 (132 + (Int32.toNatClampNeg z472.1)) (Int32.toNatClampNeg z611.1)).toInt := congrArg Int32.toInt (l613.2 (132 + (Int32.toNatClampNeg z472.1)) (by (try dsimp only); omega) (Int32.toNatClampNeg z611.1))
                  have tt640 : (wt_ga σ596 (132 + (Int32.toNatClampNeg z472.1)) (Int32.toNatClampNeg z611.1)).toInt = (wt_ga σ578 (132 + (Int32.toNatClampNeg z472.1)) (Int32.toNatClampNeg z611.1)).toInt := congrArg Int32.toInt (fσ596.2 (132 + (Int32.toNatClampNeg z472.1)) (by (try dsimp only); omega) (Int32.toNatClampNeg z611.1))
                  have tt643 : (wt_ga σ578 (132 + (Int32.toNatClampNeg z472.1)) (Int32.toNatClampNeg z611.1)).toInt = (wt_ga σ562 (132 + (Int32.toNatClampNeg z472.1)) (Int32.toNatClampNeg z611.1)).toInt := congrArg Int32.toInt (fσ578.2 (132 + (Int32.toNatClampNeg z472.1)) (by (try dsimp only); omega) (Int32.toNatClampNeg z611.1))
                  have tt646 : (wt_ga σ562 (132 + (Int32.toNatClampNeg z472.1)) (Int32.toNatClampNeg z611.1)).toInt = (wt_ga z472.2 (132 + (Int32.toNatClampNeg z472.1)) (Int32.toNatClampNeg z611.1)).toInt := congrArg Int32.toInt (fσ562.2 (132 + (Int32.toNatClampNeg z472.1)) (by (try dsimp only); omega) (Int32.toNatClampNeg z611.1))
                  have tt649 : (wt_ga z472.2 (132 + (Int32.toNatClampNeg z472.1)) (Int32.toNatClampNeg z611.1)).toInt = (wt_ga σ465 (132 + (Int32.toNatClampNeg z472.1)) (Int32.toNatClampNeg z611.1)).toInt := congrArg Int32.toInt (l474.2 (132 + (Int32.toNatClampNeg z472.1)) (by (try dsimp only); omega) (Int32.toNatClampNeg z611.1))
                  have tt652 : (wt_ga σ465 (132 + (Int32.toNatClampNeg z472.1)) (Int32.toNatClampNeg z611.1)).toInt = (wt_ga σ461 (132 + (Int32.toNatClampNeg z472.1)) (Int32.toNatClampNeg z611.1)).toInt := congrArg Int32.toInt (fσ465.2 (132 + (Int32.toNatClampNeg z472.1)) (fun z => z) (Int32.toNatClampNeg z611.1))
                  have tt655 : (wt_ga σ461 (132 + (Int32.toNatClampNeg z472.1)) (Int32.toNatClampNeg z611.1)).toInt = (wt_ga σ454 (132 + (Int32.toNatClampNeg z472.1)) (Int32.toNatClampNeg z611.1)).toInt := congrArg Int32.toInt (fσ461.2 (132 + (Int32.toNatClampNeg z472.1)) (fun z => z) (Int32.toNatClampNeg z611.1))
                  have tt658 : (wt_ga σ454 (132 + (Int32.toNatClampNeg z472.1)) (Int32.toNatClampNeg z611.1)).toInt = (wt_ga z29 (132 + (Int32.toNatClampNeg z472.1)) (Int32.toNatClampNeg z611.1)).toInt := congrArg Int32.toInt (fσ454.2 (132 + (Int32.toNatClampNeg z472.1)) (fun z => z) (Int32.toNatClampNeg z611.1))
                  have rσ633 := wt_Rn8 l615 eσ633 (show 193 ≤ 193 + (Int32.toNatClampNeg z472.1) by omega) (show 193 + (Int32.toNatClampNeg z472.1) < 253 by omega) (show 0 ≤ (wt_ga z611.2 (132 + (Int32.toNatClampNeg z472.1)) (Int32.toNatClampNeg z611.1)).toInt by omega) (show (wt_ga z611.2 (132 + (Int32.toNatClampNeg z472.1)) (Int32.toNatClampNeg z611.1)).toInt ≤ 25 by omega)
                  refine hKK610 _ ⟨(wt_fr.tr (wt_fr.tr wt_fr.rf l613 (fun i k h => h.elim) (fun i h => by (try dsimp only at h); exact (by first | exact h | omega))) fσ633 (fun i k h => h.elim) (fun i h => by (try dsimp only at h); exact (by first | exact h | omega))), (wt_nn (B := (9 : Int32)) (by first | with_reducible assumption | omega) (by first | with_reducible assumption | omega)), rσ633⟩ ?_
                  show ((9 : Int32).toInt - (z611.1 + (1 : Int32)).toInt + 0).toNat < ((9 : Int32).toInt - z611.1.toInt + 0).toNat
                  exact wt_mu (by first | with_reducible assumption | omega) (by first | with_reducible assumption | omega)
              · skip
                have k661 : (9 : Int32).toInt = 9 := by decide
                exact ⟨wt_fr.rf, (show 0 ≤ ((0 : Int32)).toInt by omega), rσ596⟩
              · skip
                have k662 : (9 : Int32).toInt = 9 := by decide
                show ((9 : Int32).toInt - (0 : Int32).toInt + 0).toNat < n
                omega
          · skip
            have g664 : 0 ≤ (wt_gf σ465 108 28).toInt ∧ (wt_gf σ465 108 28).toInt ≤ 60 := wt_Rf6 rσ465
            have tt665 : (wt_gf σ465 108 28).toInt = (wt_gf σ461 108 28).toInt := congrArg Int32.toInt (fσ465.1 108 28 (by (try dsimp only); omega))
            exact ⟨wt_fr.rf, (show 0 ≤ ((0 : Int32)).toInt by omega), rσ465⟩
          · skip
            have g669 : 0 ≤ (wt_gf σ465 108 28).toInt ∧ (wt_gf σ465 108 28).toInt ≤ 60 := wt_Rf6 rσ465
            have tt670 : (wt_gf σ465 108 28).toInt = (wt_gf σ461 108 28).toInt := congrArg Int32.toInt (fσ465.1 108 28 (by (try dsimp only); omega))
            show ((wt_gf σ465 108 28).toInt - (0 : Int32).toInt + 0).toNat < n
            omega
        · skip
          have c673 := wt_nceq h459
          refine wt_T_some ?_
          have k674 : (10 : Int32).toInt = 10 := by decide
          obtain ⟨j675, j675a, j675b⟩ := wt_subI (wt_gf σ454 108 5) (10 : Int32)
          have g677 : 0 ≤ (wt_gf σ454 108 1).toInt ∧ (wt_gf σ454 108 1).toInt ≤ 500 := wt_Rf0 rσ454
          have tt678 : (wt_gf σ454 108 1).toInt = (wt_gf z29 108 1).toInt := congrArg Int32.toInt (fσ454.1 108 1 (by (try dsimp only); omega))
          have tt681 : (wt_gf z29 108 1).toInt = (wt_gf σ27 108 1).toInt := congrArg Int32.toInt (l31.1 108 1 (by (try dsimp only); omega))
          have tt684 : (wt_gf σ27 108 1).toInt = (wt_gf σ26 108 1).toInt := congrArg Int32.toInt (fσ27.1 108 1 (by (try dsimp only); omega))
          have tt687 : (wt_gf σ26 108 1).toInt = (wt_gf r15 108 1).toInt := congrArg Int32.toInt (fσ26.1 108 1 (by (try dsimp only); omega))
          have g689 : 0 ≤ (wt_gf σ 108 1).toInt ∧ (wt_gf σ 108 1).toInt ≤ 500 := wt_Rf0 r0
          exact ⟨(wt_fr.tr (wt_fr.tr (wt_fr.tr (wt_fr.tr (wt_fr.tr (wt_fr.tr wt_fr.rf f6 (fun i k h => by (try dsimp only at h); exact Or.inl (by first | exact h | omega)) (fun i h => h.elim)) f17 (fun i k h => by (try dsimp only at h); rcases h with h | h | h | h | h | h; exact Or.inr (Or.inl (by first | exact h | omega)); exact Or.inr (Or.inr (Or.inl (by first | exact h | omega))); exact Or.inr (Or.inr (Or.inr (Or.inl (by first | exact h | omega)))); exact Or.inr (Or.inr (Or.inr (Or.inr (Or.inl (by first | exact h | omega))))); exact Or.inr (Or.inr (Or.inr (Or.inr (Or.inr (Or.inl (by first | exact h | omega)))))); exact Or.inr (Or.inr (Or.inr (Or.inr (Or.inr (Or.inr (Or.inl (by first | exact h | omega)))))))) (fun i h => h.elim)) fσ26 (fun i k h => by (try dsimp only at h); exact Or.inr (Or.inr (Or.inr (Or.inr (Or.inr (Or.inr (Or.inr (Or.inl (by first | exact h | omega))))))))) (fun i h => h.elim)) fσ27 (fun i k h => by (try dsimp only at h); exact Or.inr (Or.inr (Or.inr (Or.inr (Or.inr (Or.inr (Or.inr (Or.inr (Or.inl (by first | exact h | omega)))))))))) (fun i h => h.elim)) l31 (fun i k h => by (try dsimp only at h); rcases h with h | h | h | h | h; exact Or.inr (Or.inr (Or.inr (Or.inl (by first | exact h | omega)))); exact Or.inr (Or.inr (Or.inr (Or.inr (Or.inl (by first | exact h | omega))))); exact Or.inr (Or.inr (Or.inr (Or.inr (Or.inr (Or.inl (by first | exact h | omega)))))); exact Or.inr (Or.inr (Or.inr (Or.inr (Or.inr (Or.inr (Or.inr (Or.inr (Or.inl (by first | exact h | omega))))))))); exact Or.inr (Or.inr (Or.inr (Or.inr (Or.inr (Or.inr (Or.inr (Or.inl (by first | exact h | omega))))))))) (fun i h => by (try dsimp only at h); rcases h with h | h | h | h; exact Or.inr (Or.inr (Or.inr (Or.inr (Or.inr (Or.inr (Or.inl (by first | exact h | omega))))))); exact Or.inr (Or.inr (Or.inr (Or.inr (Or.inr (Or.inr (Or.inr (Or.inl (by first | exact h | omega)))))))); exact Or.inr (Or.inr (Or.inr (Or.inr (Or.inr (Or.inr (Or.inr (Or.inr (Or.inl (by first | exact h | omega))))))))); exact Or.inr (Or.inr (Or.inr (Or.inr (Or.inr (Or.inr (Or.inr (Or.inr (Or.inr (by first | exact h | omega))))))))))) fσ454 (fun i k h => by (try dsimp only at h); exact Or.inr (Or.inr (Or.inr (Or.inr (Or.inr (Or.inr (Or.inr (Or.inr (Or.inr (Or.inl (by first | exact h | omega))))))))))) (fun i h => h.elim)), rσ454, (show ((y1.toInt ≠ 0 → (wt_gf σ454 108 1).toInt = (wt_gf σ 108 1).toInt) ∧ (y1.toInt = 0 ∧ (wt_gf σ 108 0).toInt = 0 → (wt_gf σ454 108 1).toInt = 0)) from by omega)⟩
    · skip
      have g691 : 0 ≤ (wt_gf σ27 108 27).toInt ∧ (wt_gf σ27 108 27).toInt ≤ 60 := wt_Rf5 rσ27
      have tt692 : (wt_gf σ27 108 27).toInt = (wt_gf σ26 108 27).toInt := congrArg Int32.toInt (fσ27.1 108 27 (by (try dsimp only); omega))
      have g696 : 0 ≤ (wt_gf σ27 108 5).toInt ∧ (wt_gf σ27 108 5).toInt ≤ 3 := wt_Rf3 rσ27
      have tt697 : (wt_gf σ27 108 5).toInt = (wt_gf σ26 108 5).toInt := congrArg Int32.toInt (fσ27.1 108 5 (by (try dsimp only); omega))
      have tt700 : (wt_gf σ26 108 5).toInt = (wt_gf r15 108 5).toInt := congrArg Int32.toInt (fσ26.1 108 5 (by (try dsimp only); omega))
      exact ⟨wt_fr.rf, rσ27⟩
    · skip
      have g702 : 0 ≤ (wt_gf σ27 108 27).toInt ∧ (wt_gf σ27 108 27).toInt ≤ 60 := wt_Rf5 rσ27
      have tt703 : (wt_gf σ27 108 27).toInt = (wt_gf σ26 108 27).toInt := congrArg Int32.toInt (fσ27.1 108 27 (by (try dsimp only); omega))
      have g707 : 0 ≤ (wt_gf σ27 108 5).toInt ∧ (wt_gf σ27 108 5).toInt ≤ 3 := wt_Rf3 rσ27
      have tt708 : (wt_gf σ27 108 5).toInt = (wt_gf σ26 108 5).toInt := congrArg Int32.toInt (fσ27.1 108 5 (by (try dsimp only); omega))
      have tt711 : (wt_gf σ26 108 5).toInt = (wt_gf r15 108 5).toInt := congrArg Int32.toInt (fσ26.1 108 5 (by (try dsimp only); omega))
      show (4 * (60 - (wt_gf σ27 108 27).toInt) + 3 - (wt_gf σ27 108 5).toInt).toNat < n
      omega
  · skip
    have c712 := wt_nceq h13
    refine wt_T_some ?_
    have g714 : 0 ≤ (wt_gf r4.2 108 1).toInt ∧ (wt_gf r4.2 108 1).toInt ≤ 500 := wt_Rf0 ri7
    have tt715 : (wt_gf r4.2 108 1).toInt = (wt_gf σ 108 1).toInt := congrArg Int32.toInt (f6.1 108 1 (by (try dsimp only); omega))
    exact ⟨(wt_fr.tr wt_fr.rf f6 (fun i k h => by (try dsimp only at h); exact Or.inl (by first | exact h | omega)) (fun i h => h.elim)), ri7, (show ((y1.toInt ≠ 0 → (wt_gf r4.2 108 1).toInt = (wt_gf σ 108 1).toInt) ∧ (y1.toInt = 0 ∧ (wt_gf σ 108 0).toInt = 0 → (wt_gf r4.2 108 1).toInt = 0)) from by omega)⟩
set_option maxRecDepth 100000 in
set_option maxHeartbeats 4000000 in
theorem wq_md_tongue (n : Nat) (hn : 4294967297 < n) (x1 : Int32) (σ : wt_St) (r0 : wt_RI σ) : wt_T (wp_md_tongue n x1 σ) (fun q => wt_fr (fun i k => (i = 108 ∧ k = 0) ∨ (i = 108 ∧ k = 1) ∨ (i = 108 ∧ k = 2) ∨ (i = 108 ∧ k = 4) ∨ (i = 108 ∧ k = 5) ∨ (i = 108 ∧ k = 6) ∨ (i = 108 ∧ k = 7) ∨ (i = 108 ∧ k = 27) ∨ (i = 108 ∧ k = 29) ∨ (i = 108 ∧ k = 3) ∨ (i = 108 ∧ k = 28) ∨ (i = 108 ∧ k = 30) ∨ (i = 108 ∧ k = 39) ∨ (i = 108 ∧ k = 40) ∨ (i = 108 ∧ k = 41)) (fun i => i = 275 ∨ i = 124 ∨ i = 126 ∨ i = 128 ∨ i = 130 ∨ (193 ≤ i ∧ i < 253) ∨ i = 125 ∨ i = 127 ∨ i = 129 ∨ (132 ≤ i ∧ i < 192)) σ q.2 ∧ wt_RI q.2 ∧ ((x1.toInt < 0 ∨ (wt_gf σ 108 1).toInt < x1.toInt → (wt_gf q.2 108 1).toInt = (wt_gf σ 108 1).toInt) ∧ (0 ≤ x1.toInt ∧ x1.toInt ≤ (wt_gf σ 108 1).toInt → (wt_gf q.2 108 1).toInt = 0))) := by
  have bb1 := wt_bd x1
  unfold wp_md_tongue
  obtain ⟨σ2, eσ2⟩ : ∃ z : wt_St, z = wt_sf σ 108 0 (0 : Int32) := ⟨_, rfl⟩
  rw [← eσ2]
  have fσ2 := wt_fr_sf eσ2
  have vσ2 := wt_ceq (wt_v_sf eσ2)
  have k3 : (0 : Int32).toInt = 0 := by decide
  have rσ2 := wt_RI_fno r0 eσ2 (Or.inr (by decide +kernel))
  have g5 : 0 ≤ (wt_gf σ2 108 1).toInt ∧ (wt_gf σ2 108 1).toInt ≤ 500 := wt_Rf0 rσ2
  have tt6 : (wt_gf σ2 108 1).toInt = (wt_gf σ 108 1).toInt := congrArg Int32.toInt (fσ2.1 108 1 (by (try dsimp only); omega))
  refine wt_T_bi (wq_md_in n hn x1 (0 : Int32) (wt_gf σ2 108 1) σ2 rσ2) (fun r9 h10 => ?_)
  obtain ⟨e11, pp12⟩ := h10
  have bb13 := wt_bd r9.1
  rw [e11]
  refine wt_T_if (fun h14 => ?_) (fun h14 => ?_)
  · skip
    have c15 := wt_ceq h14
    have k16 : (1 : Int32).toInt = 1 := by decide
    refine wt_T.imp (wq_md_tongue_B23 n hn x1 (1 : Int32) σ2 rσ2 (by first | with_reducible assumption | omega)) (fun r17 h18 => ?_)
    have bb19 := wt_bd r17.1
    obtain ⟨f20, ri21, pp22⟩ := h18
    have g24 : 0 ≤ (wt_gf r17.2 108 1).toInt ∧ (wt_gf r17.2 108 1).toInt ≤ 500 := wt_Rf0 ri21
    have bb25 := wt_bd (wt_gf σ2 108 0)
    exact ⟨(wt_fr.tr (wt_fr.tr wt_fr.rf fσ2 (fun i k h => by (try dsimp only at h); exact Or.inl (by first | exact h | omega)) (fun i h => h.elim)) f20 (fun i k h => by (try dsimp only at h); rcases h with h | h | h | h | h | h | h | h | h | h | h | h | h | h | h; exact Or.inl (by first | exact h | omega); exact Or.inr (Or.inl (by first | exact h | omega)); exact Or.inr (Or.inr (Or.inl (by first | exact h | omega))); exact Or.inr (Or.inr (Or.inr (Or.inl (by first | exact h | omega)))); exact Or.inr (Or.inr (Or.inr (Or.inr (Or.inl (by first | exact h | omega))))); exact Or.inr (Or.inr (Or.inr (Or.inr (Or.inr (Or.inl (by first | exact h | omega)))))); exact Or.inr (Or.inr (Or.inr (Or.inr (Or.inr (Or.inr (Or.inl (by first | exact h | omega))))))); exact Or.inr (Or.inr (Or.inr (Or.inr (Or.inr (Or.inr (Or.inr (Or.inl (by first | exact h | omega)))))))); exact Or.inr (Or.inr (Or.inr (Or.inr (Or.inr (Or.inr (Or.inr (Or.inr (Or.inl (by first | exact h | omega))))))))); exact Or.inr (Or.inr (Or.inr (Or.inr (Or.inr (Or.inr (Or.inr (Or.inr (Or.inr (Or.inl (by first | exact h | omega)))))))))); exact Or.inr (Or.inr (Or.inr (Or.inr (Or.inr (Or.inr (Or.inr (Or.inr (Or.inr (Or.inr (Or.inl (by first | exact h | omega))))))))))); exact Or.inr (Or.inr (Or.inr (Or.inr (Or.inr (Or.inr (Or.inr (Or.inr (Or.inr (Or.inr (Or.inr (Or.inl (by first | exact h | omega)))))))))))); exact Or.inr (Or.inr (Or.inr (Or.inr (Or.inr (Or.inr (Or.inr (Or.inr (Or.inr (Or.inr (Or.inr (Or.inr (Or.inl (by first | exact h | omega))))))))))))); exact Or.inr (Or.inr (Or.inr (Or.inr (Or.inr (Or.inr (Or.inr (Or.inr (Or.inr (Or.inr (Or.inr (Or.inr (Or.inr (Or.inl (by first | exact h | omega)))))))))))))); exact Or.inr (Or.inr (Or.inr (Or.inr (Or.inr (Or.inr (Or.inr (Or.inr (Or.inr (Or.inr (Or.inr (Or.inr (Or.inr (Or.inr (by first | exact h | omega))))))))))))))) (fun i h => by (try dsimp only at h); rcases h with h | h | h | h | h | h | h | h | h | h; exact Or.inl (by first | exact h | omega); exact Or.inr (Or.inl (by first | exact h | omega)); exact Or.inr (Or.inr (Or.inl (by first | exact h | omega))); exact Or.inr (Or.inr (Or.inr (Or.inl (by first | exact h | omega)))); exact Or.inr (Or.inr (Or.inr (Or.inr (Or.inl (by first | exact h | omega))))); exact Or.inr (Or.inr (Or.inr (Or.inr (Or.inr (Or.inl (by first | exact h | omega)))))); exact Or.inr (Or.inr (Or.inr (Or.inr (Or.inr (Or.inr (Or.inl (by first | exact h | omega))))))); exact Or.inr (Or.inr (Or.inr (Or.inr (Or.inr (Or.inr (Or.inr (Or.inl (by first | exact h | omega)))))))); exact Or.inr (Or.inr (Or.inr (Or.inr (Or.inr (Or.inr (Or.inr (Or.inr (Or.inl (by first | exact h | omega))))))))); exact Or.inr (Or.inr (Or.inr (Or.inr (Or.inr (Or.inr (Or.inr (Or.inr (Or.inr (by first | exact h | omega))))))))))), ri21, (show ((x1.toInt < 0 ∨ (wt_gf σ 108 1).toInt < x1.toInt → (wt_gf r17.2 108 1).toInt = (wt_gf σ 108 1).toInt) ∧ (0 ≤ x1.toInt ∧ x1.toInt ≤ (wt_gf σ 108 1).toInt → (wt_gf r17.2 108 1).toInt = 0)) from by omega)⟩
  · skip
    have c26 := wt_nceq h14
    refine wt_T.imp (wq_md_tongue_B23 n hn x1 (0 : Int32) σ2 rσ2 (by first | with_reducible assumption | omega)) (fun r27 h28 => ?_)
    have bb29 := wt_bd r27.1
    obtain ⟨f30, ri31, pp32⟩ := h28
    have g34 : 0 ≤ (wt_gf r27.2 108 1).toInt ∧ (wt_gf r27.2 108 1).toInt ≤ 500 := wt_Rf0 ri31
    have bb35 := wt_bd (wt_gf σ2 108 0)
    exact ⟨(wt_fr.tr (wt_fr.tr wt_fr.rf fσ2 (fun i k h => by (try dsimp only at h); exact Or.inl (by first | exact h | omega)) (fun i h => h.elim)) f30 (fun i k h => by (try dsimp only at h); rcases h with h | h | h | h | h | h | h | h | h | h | h | h | h | h | h; exact Or.inl (by first | exact h | omega); exact Or.inr (Or.inl (by first | exact h | omega)); exact Or.inr (Or.inr (Or.inl (by first | exact h | omega))); exact Or.inr (Or.inr (Or.inr (Or.inl (by first | exact h | omega)))); exact Or.inr (Or.inr (Or.inr (Or.inr (Or.inl (by first | exact h | omega))))); exact Or.inr (Or.inr (Or.inr (Or.inr (Or.inr (Or.inl (by first | exact h | omega)))))); exact Or.inr (Or.inr (Or.inr (Or.inr (Or.inr (Or.inr (Or.inl (by first | exact h | omega))))))); exact Or.inr (Or.inr (Or.inr (Or.inr (Or.inr (Or.inr (Or.inr (Or.inl (by first | exact h | omega)))))))); exact Or.inr (Or.inr (Or.inr (Or.inr (Or.inr (Or.inr (Or.inr (Or.inr (Or.inl (by first | exact h | omega))))))))); exact Or.inr (Or.inr (Or.inr (Or.inr (Or.inr (Or.inr (Or.inr (Or.inr (Or.inr (Or.inl (by first | exact h | omega)))))))))); exact Or.inr (Or.inr (Or.inr (Or.inr (Or.inr (Or.inr (Or.inr (Or.inr (Or.inr (Or.inr (Or.inl (by first | exact h | omega))))))))))); exact Or.inr (Or.inr (Or.inr (Or.inr (Or.inr (Or.inr (Or.inr (Or.inr (Or.inr (Or.inr (Or.inr (Or.inl (by first | exact h | omega)))))))))))); exact Or.inr (Or.inr (Or.inr (Or.inr (Or.inr (Or.inr (Or.inr (Or.inr (Or.inr (Or.inr (Or.inr (Or.inr (Or.inl (by first | exact h | omega))))))))))))); exact Or.inr (Or.inr (Or.inr (Or.inr (Or.inr (Or.inr (Or.inr (Or.inr (Or.inr (Or.inr (Or.inr (Or.inr (Or.inr (Or.inl (by first | exact h | omega)))))))))))))); exact Or.inr (Or.inr (Or.inr (Or.inr (Or.inr (Or.inr (Or.inr (Or.inr (Or.inr (Or.inr (Or.inr (Or.inr (Or.inr (Or.inr (by first | exact h | omega))))))))))))))) (fun i h => by (try dsimp only at h); rcases h with h | h | h | h | h | h | h | h | h | h; exact Or.inl (by first | exact h | omega); exact Or.inr (Or.inl (by first | exact h | omega)); exact Or.inr (Or.inr (Or.inl (by first | exact h | omega))); exact Or.inr (Or.inr (Or.inr (Or.inl (by first | exact h | omega)))); exact Or.inr (Or.inr (Or.inr (Or.inr (Or.inl (by first | exact h | omega))))); exact Or.inr (Or.inr (Or.inr (Or.inr (Or.inr (Or.inl (by first | exact h | omega)))))); exact Or.inr (Or.inr (Or.inr (Or.inr (Or.inr (Or.inr (Or.inl (by first | exact h | omega))))))); exact Or.inr (Or.inr (Or.inr (Or.inr (Or.inr (Or.inr (Or.inr (Or.inl (by first | exact h | omega)))))))); exact Or.inr (Or.inr (Or.inr (Or.inr (Or.inr (Or.inr (Or.inr (Or.inr (Or.inl (by first | exact h | omega))))))))); exact Or.inr (Or.inr (Or.inr (Or.inr (Or.inr (Or.inr (Or.inr (Or.inr (Or.inr (by first | exact h | omega))))))))))), ri31, (show ((x1.toInt < 0 ∨ (wt_gf σ 108 1).toInt < x1.toInt → (wt_gf r27.2 108 1).toInt = (wt_gf σ 108 1).toInt) ∧ (0 ≤ x1.toInt ∧ x1.toInt ≤ (wt_gf σ 108 1).toInt → (wt_gf r27.2 108 1).toInt = 0)) from by omega)⟩
set_option maxRecDepth 100000 in
set_option maxHeartbeats 4000000 in
theorem wq_md_want_B61 (n : Nat) (hn : 4294967297 < n) (x1 : Int32) (x2 : Int32) (x3 : Int32) (x4 : Int32) (y1 : Int32) (σ : wt_St) (r0 : wt_RI σ) (p0 : y1.toInt ≠ 0 ∨ (0 ≤ x1.toInt ∧ x1.toInt < (wt_gf σ 108 39).toInt ∧ 1 ≤ x2.toInt ∧ x2.toInt ≤ 400)) : wt_T (wp_md_want_B61 n x1 x2 x3 x4 y1 σ) (fun q => wt_fr (fun i k => (i = 108 ∧ k = 0) ∨ (i = 108 ∧ k = 40)) (fun i => (264 ≤ i ∧ i < 274)) σ q.2 ∧ wt_RI q.2) := by
  have bb1 := wt_bd x1
  have bb2 := wt_bd x2
  have bb3 := wt_bd x3
  have bb4 := wt_bd x4
  have bb5 := wt_bd y1
  have g7 : 0 ≤ (wt_gf σ 108 39).toInt ∧ (wt_gf σ 108 39).toInt ≤ 8 := wt_Rf7 r0
  unfold wp_md_want_B61
  have k8 : (2 : Int32).toInt = 2 := by decide
  refine wt_T_bi (wq_md_bad n hn y1 (2 : Int32) σ r0 (by first | with_reducible assumption | omega)) (fun r9 h10 => ?_)
  obtain ⟨f11, ri12, pp13⟩ := h10
  have bb14 := wt_bd r9.1
  have bb15 := wt_bd (wt_gf r9.2 108 0)
  have bb16 := wt_bd (wt_gf σ 108 0)
  have k17 : (0 : Int32).toInt = 0 := by decide
  refine wt_T_if (fun h18 => ?_) (fun h18 => ?_)
  · skip
    have c19 := wt_ceq h18
    have g21 : 0 ≤ (wt_gf r9.2 108 40).toInt ∧ (wt_gf r9.2 108 40).toInt ≤ 10 := wt_Rf8 ri12
    have tt22 : (wt_gf r9.2 108 40).toInt = (wt_gf σ 108 40).toInt := congrArg Int32.toInt (f11.1 108 40 (by (try dsimp only); omega))
    have k25 : (10 : Int32).toInt = 10 := by decide
    refine wt_T_if (fun h26 => ?_) (fun h26 => ?_)
    · skip
      have c27 := wt_ceq h26
      refine wt_T_some ?_
      exact ⟨(wt_fr.tr wt_fr.rf f11 (fun i k h => by (try dsimp only at h); exact Or.inl (by first | exact h | omega)) (fun i h => h.elim)), ri12⟩
    · skip
      have c28 := wt_nceq h26
      refine wt_T_gd (wt_ix (by first | with_reducible assumption | omega) (by first | with_reducible assumption | omega)) ?_
      refine wt_T_gd (wt_ix (by first | with_reducible assumption | omega) (by first | with_reducible assumption | omega)) ?_
      obtain ⟨σ29, eσ29⟩ : ∃ z : wt_St, z = wt_sa r9.2 (264 + (Int32.toNatClampNeg (wt_gf r9.2 108 40))) (Int32.toNatClampNeg (0 : Int32)) x1 := ⟨_, rfl⟩
      rw [← eσ29]
      have fσ29 := wt_fr_sa eσ29
      have vσ29 := wt_ceq (wt_v_sa eσ29)
      have bb30 := wt_tn (0 : Int32)
      have bb31 := wt_tn (wt_gf r9.2 108 40)
      have rσ29 := wt_RI_w ri12 eσ29 (by first | with_reducible assumption | omega) (by first | with_reducible assumption | omega) (fun _ => ⟨by omega, by omega⟩) (fun h => absurd h (by decide))
      have g33 : 0 ≤ (wt_gf σ29 108 40).toInt ∧ (wt_gf σ29 108 40).toInt ≤ 10 := wt_Rf8 rσ29
      have tt34 : (wt_gf σ29 108 40).toInt = (wt_gf r9.2 108 40).toInt := congrArg Int32.toInt (fσ29.1 108 40 (fun z => z))
      refine wt_T_gd (wt_ix (by first | with_reducible assumption | omega) (by first | with_reducible assumption | omega)) ?_
      have k35 : (1 : Int32).toInt = 1 := by decide
      refine wt_T_gd (wt_ix (by first | with_reducible assumption | omega) (by first | with_reducible assumption | omega)) ?_
      obtain ⟨σ36, eσ36⟩ : ∃ z : wt_St, z = wt_sa σ29 (264 + (Int32.toNatClampNeg (wt_gf σ29 108 40))) (Int32.toNatClampNeg (1 : Int32)) x2 := ⟨_, rfl⟩
      rw [← eσ36]
      have fσ36 := wt_fr_sa eσ36
      have vσ36 := wt_ceq (wt_v_sa eσ36)
      have bb37 := wt_tn (1 : Int32)
      have bb38 := wt_tn (wt_gf σ29 108 40)
      have rσ36 := wt_RI_w rσ29 eσ36 (by first | with_reducible assumption | omega) (by first | with_reducible assumption | omega) (fun h => absurd h (by decide)) (fun _ => ⟨by omega, by omega⟩)
      have g40 : 0 ≤ (wt_gf σ36 108 40).toInt ∧ (wt_gf σ36 108 40).toInt ≤ 10 := wt_Rf8 rσ36
      have tt41 : (wt_gf σ36 108 40).toInt = (wt_gf σ29 108 40).toInt := congrArg Int32.toInt (fσ36.1 108 40 (fun z => z))
      refine wt_T_gd (wt_ix (by first | with_reducible assumption | omega) (by first | with_reducible assumption | omega)) ?_
      refine wt_T_gd (wt_ix (by first | with_reducible assumption | omega) (by first | with_reducible assumption | omega)) ?_
      obtain ⟨σ42, eσ42⟩ : ∃ z : wt_St, z = wt_sa σ36 (264 + (Int32.toNatClampNeg (wt_gf σ36 108 40))) (Int32.toNatClampNeg (2 : Int32)) x3 := ⟨_, rfl⟩
      rw [← eσ42]
      have fσ42 := wt_fr_sa eσ42
      have vσ42 := wt_ceq (wt_v_sa eσ42)
      have bb43 := wt_tn (2 : Int32)
      have bb44 := wt_tn (wt_gf σ36 108 40)
      have rσ42 := wt_RI_w rσ36 eσ42 (by first | with_reducible assumption | omega) (by first | with_reducible assumption | omega) (fun h => absurd h (by decide)) (fun h => absurd h (by decide))
      have g46 : 0 ≤ (wt_gf σ42 108 40).toInt ∧ (wt_gf σ42 108 40).toInt ≤ 10 := wt_Rf8 rσ42
      have tt47 : (wt_gf σ42 108 40).toInt = (wt_gf σ36 108 40).toInt := congrArg Int32.toInt (fσ42.1 108 40 (fun z => z))
      refine wt_T_gd (wt_ix (by first | with_reducible assumption | omega) (by first | with_reducible assumption | omega)) ?_
      have k48 : (3 : Int32).toInt = 3 := by decide
      refine wt_T_gd (wt_ix (by first | with_reducible assumption | omega) (by first | with_reducible assumption | omega)) ?_
      obtain ⟨σ49, eσ49⟩ : ∃ z : wt_St, z = wt_sa σ42 (264 + (Int32.toNatClampNeg (wt_gf σ42 108 40))) (Int32.toNatClampNeg (3 : Int32)) x4 := ⟨_, rfl⟩
      rw [← eσ49]
      have fσ49 := wt_fr_sa eσ49
      have vσ49 := wt_ceq (wt_v_sa eσ49)
      have bb50 := wt_tn (3 : Int32)
      have bb51 := wt_tn (wt_gf σ42 108 40)
      have rσ49 := wt_RI_w rσ42 eσ49 (by first | with_reducible assumption | omega) (by first | with_reducible assumption | omega) (fun h => absurd h (by decide)) (fun h => absurd h (by decide))
      obtain ⟨σ52, eσ52⟩ : ∃ z : wt_St, z = wt_sf σ49 108 40 ((wt_gf σ49 108 40) + (1 : Int32)) := ⟨_, rfl⟩
      rw [← eσ52]
      have fσ52 := wt_fr_sf eσ52
      have vσ52 := wt_ceq (wt_v_sf eσ52)
      have g54 : 0 ≤ (wt_gf σ49 108 40).toInt ∧ (wt_gf σ49 108 40).toInt ≤ 10 := wt_Rf8 rσ49
      have tt55 : (wt_gf σ49 108 40).toInt = (wt_gf σ42 108 40).toInt := congrArg Int32.toInt (fσ49.1 108 40 (fun z => z))
      obtain ⟨j56, j56a, j56b⟩ := wt_addI (wt_gf σ49 108 40) (1 : Int32)
      have rσ52 := wt_Rm8 rσ49 eσ52 (show 0 ≤ ((wt_gf σ49 108 40) + (1 : Int32)).toInt by omega) (show ((wt_gf σ49 108 40) + (1 : Int32)).toInt ≤ 10 by omega)
      refine wt_T_some ?_
      exact ⟨(wt_fr.tr (wt_fr.tr (wt_fr.tr (wt_fr.tr (wt_fr.tr (wt_fr.tr wt_fr.rf f11 (fun i k h => by (try dsimp only at h); exact Or.inl (by first | exact h | omega)) (fun i h => h.elim)) fσ29 (fun i k h => h.elim) (fun i h => by (try dsimp only at h); exact (by first | exact h | omega))) fσ36 (fun i k h => h.elim) (fun i h => by (try dsimp only at h); exact (by first | exact h | omega))) fσ42 (fun i k h => h.elim) (fun i h => by (try dsimp only at h); exact (by first | exact h | omega))) fσ49 (fun i k h => h.elim) (fun i h => by (try dsimp only at h); exact (by first | exact h | omega))) fσ52 (fun i k h => by (try dsimp only at h); exact Or.inr (by first | exact h | omega)) (fun i h => h.elim)), rσ52⟩
  · skip
    have c57 := wt_nceq h18
    refine wt_T_some ?_
    exact ⟨(wt_fr.tr wt_fr.rf f11 (fun i k h => by (try dsimp only at h); exact Or.inl (by first | exact h | omega)) (fun i h => h.elim)), ri12⟩
set_option maxRecDepth 100000 in
set_option maxHeartbeats 4000000 in
theorem wq_md_want (n : Nat) (hn : 4294967297 < n) (x1 : Int32) (x2 : Int32) (x3 : Int32) (x4 : Int32) (σ : wt_St) (r0 : wt_RI σ) : wt_T (wp_md_want n x1 x2 x3 x4 σ) (fun q => wt_fr (fun i k => (i = 108 ∧ k = 0) ∨ (i = 108 ∧ k = 40)) (fun i => (264 ≤ i ∧ i < 274)) σ q.2 ∧ wt_RI q.2) := by
  have bb1 := wt_bd x1
  have bb2 := wt_bd x2
  have bb3 := wt_bd x3
  have bb4 := wt_bd x4
  unfold wp_md_want
  obtain ⟨σ5, eσ5⟩ : ∃ z : wt_St, z = wt_sf σ 108 0 (0 : Int32) := ⟨_, rfl⟩
  rw [← eσ5]
  have fσ5 := wt_fr_sf eσ5
  have vσ5 := wt_ceq (wt_v_sf eσ5)
  have k6 : (0 : Int32).toInt = 0 := by decide
  have rσ5 := wt_RI_fno r0 eσ5 (Or.inr (by decide +kernel))
  refine wt_T_bi (wq_md_isText n hn x1 σ5 rσ5) (fun r7 h8 => ?_)
  obtain ⟨e9, pp10⟩ := h8
  have bb11 := wt_bd r7.1
  rw [e9]
  have g13 : 0 ≤ (wt_gf σ5 108 39).toInt ∧ (wt_gf σ5 108 39).toInt ≤ 8 := wt_Rf7 rσ5
  have tt14 : (wt_gf σ5 108 39).toInt = (wt_gf σ 108 39).toInt := congrArg Int32.toInt (fσ5.1 108 39 (by (try dsimp only); omega))
  refine wt_T_if (fun h17 => ?_) (fun h17 => ?_)
  · skip
    have c18 := wt_ceq h17
    unfold wp_md_want_B19
    have k19 : (1 : Int32).toInt = 1 := by decide
    refine wt_T_bi (wq_md_bad n hn (1 : Int32) (1 : Int32) σ5 rσ5 (by first | with_reducible assumption | omega)) (fun r20 h21 => ?_)
    obtain ⟨f22, ri23, pp24⟩ := h21
    have bb25 := wt_bd r20.1
    have bb26 := wt_bd (wt_gf r20.2 108 0)
    have bb27 := wt_bd (wt_gf σ5 108 0)
    refine wt_T_if (fun h28 => ?_) (fun h28 => ?_)
    · skip
      have c29 := wt_ceq h28
      refine wt_T_bi (wq_md_isCopies n hn x2 r20.2 ri23) (fun r30 h31 => ?_)
      obtain ⟨e32, pp33⟩ := h31
      have bb34 := wt_bd r30.1
      rw [e32]
      refine wt_T_if (fun h35 => ?_) (fun h35 => ?_)
      · skip
        have c36 := wt_ceq h35
        unfold wp_md_want_B56
        have g38 : 0 ≤ (wt_gf r20.2 108 39).toInt ∧ (wt_gf r20.2 108 39).toInt ≤ 8 := wt_Rf7 ri23
        have tt39 : (wt_gf r20.2 108 39).toInt = (wt_gf σ5 108 39).toInt := congrArg Int32.toInt (f22.1 108 39 (by (try dsimp only); omega))
        refine wt_T.imp (wq_md_want_B61 n hn x1 x2 x3 x4 (1 : Int32) r20.2 ri23 (by first | with_reducible assumption | omega)) (fun r40 h41 => ?_)
        have bb42 := wt_bd r40.1
        obtain ⟨f43, ri44⟩ := h41
        exact ⟨(wt_fr.tr (wt_fr.tr (wt_fr.tr wt_fr.rf fσ5 (fun i k h => by (try dsimp only at h); exact Or.inl (by first | exact h | omega)) (fun i h => h.elim)) f22 (fun i k h => by (try dsimp only at h); exact Or.inl (by first | exact h | omega)) (fun i h => h.elim)) f43 (fun i k h => by (try dsimp only at h); rcases h with h | h; exact Or.inl (by first | exact h | omega); exact Or.inr (by first | exact h | omega)) (fun i h => by (try dsimp only at h); exact (by first | exact h | omega))), ri44⟩
      · skip
        have c45 := wt_nceq h35
        have k46 : (99 : Int32).toInt = 99 := by decide
        refine wt_T_bi (wq_md_in n hn x3 (0 : Int32) (99 : Int32) r20.2 ri23) (fun r47 h48 => ?_)
        obtain ⟨e49, pp50⟩ := h48
        have bb51 := wt_bd r47.1
        rw [e49]
        refine wt_T_if (fun h52 => ?_) (fun h52 => ?_)
        · skip
          have c53 := wt_ceq h52
          unfold wp_md_want_B56
          have g55 : 0 ≤ (wt_gf r20.2 108 39).toInt ∧ (wt_gf r20.2 108 39).toInt ≤ 8 := wt_Rf7 ri23
          have tt56 : (wt_gf r20.2 108 39).toInt = (wt_gf σ5 108 39).toInt := congrArg Int32.toInt (f22.1 108 39 (by (try dsimp only); omega))
          refine wt_T.imp (wq_md_want_B61 n hn x1 x2 x3 x4 (1 : Int32) r20.2 ri23 (by first | with_reducible assumption | omega)) (fun r57 h58 => ?_)
          have bb59 := wt_bd r57.1
          obtain ⟨f60, ri61⟩ := h58
          exact ⟨(wt_fr.tr (wt_fr.tr (wt_fr.tr wt_fr.rf fσ5 (fun i k h => by (try dsimp only at h); exact Or.inl (by first | exact h | omega)) (fun i h => h.elim)) f22 (fun i k h => by (try dsimp only at h); exact Or.inl (by first | exact h | omega)) (fun i h => h.elim)) f60 (fun i k h => by (try dsimp only at h); rcases h with h | h; exact Or.inl (by first | exact h | omega); exact Or.inr (by first | exact h | omega)) (fun i h => by (try dsimp only at h); exact (by first | exact h | omega))), ri61⟩
        · skip
          have c62 := wt_nceq h52
          have k63 : (999 : Int32).toInt = 999 := by decide
          refine wt_T_bi (wq_md_in n hn x4 (1 : Int32) (999 : Int32) r20.2 ri23) (fun r64 h65 => ?_)
          obtain ⟨e66, pp67⟩ := h65
          have bb68 := wt_bd r64.1
          rw [e66]
          refine wt_T_if (fun h69 => ?_) (fun h69 => ?_)
          · skip
            have c70 := wt_ceq h69
            unfold wp_md_want_B56
            have g72 : 0 ≤ (wt_gf r20.2 108 39).toInt ∧ (wt_gf r20.2 108 39).toInt ≤ 8 := wt_Rf7 ri23
            have tt73 : (wt_gf r20.2 108 39).toInt = (wt_gf σ5 108 39).toInt := congrArg Int32.toInt (f22.1 108 39 (by (try dsimp only); omega))
            refine wt_T.imp (wq_md_want_B61 n hn x1 x2 x3 x4 (1 : Int32) r20.2 ri23 (by first | with_reducible assumption | omega)) (fun r74 h75 => ?_)
            have bb76 := wt_bd r74.1
            obtain ⟨f77, ri78⟩ := h75
            exact ⟨(wt_fr.tr (wt_fr.tr (wt_fr.tr wt_fr.rf fσ5 (fun i k h => by (try dsimp only at h); exact Or.inl (by first | exact h | omega)) (fun i h => h.elim)) f22 (fun i k h => by (try dsimp only at h); exact Or.inl (by first | exact h | omega)) (fun i h => h.elim)) f77 (fun i k h => by (try dsimp only at h); rcases h with h | h; exact Or.inl (by first | exact h | omega); exact Or.inr (by first | exact h | omega)) (fun i h => by (try dsimp only at h); exact (by first | exact h | omega))), ri78⟩
          · skip
            have c79 := wt_nceq h69
            have g81 : 0 ≤ (wt_gf r20.2 108 39).toInt ∧ (wt_gf r20.2 108 39).toInt ≤ 8 := wt_Rf7 ri23
            have tt82 : (wt_gf r20.2 108 39).toInt = (wt_gf σ5 108 39).toInt := congrArg Int32.toInt (f22.1 108 39 (by (try dsimp only); omega))
            refine wt_T.imp (wq_md_want_B61 n hn x1 x2 x3 x4 (0 : Int32) r20.2 ri23 (by first | with_reducible assumption | omega)) (fun r83 h84 => ?_)
            have bb85 := wt_bd r83.1
            obtain ⟨f86, ri87⟩ := h84
            exact ⟨(wt_fr.tr (wt_fr.tr (wt_fr.tr wt_fr.rf fσ5 (fun i k h => by (try dsimp only at h); exact Or.inl (by first | exact h | omega)) (fun i h => h.elim)) f22 (fun i k h => by (try dsimp only at h); exact Or.inl (by first | exact h | omega)) (fun i h => h.elim)) f86 (fun i k h => by (try dsimp only at h); rcases h with h | h; exact Or.inl (by first | exact h | omega); exact Or.inr (by first | exact h | omega)) (fun i h => by (try dsimp only at h); exact (by first | exact h | omega))), ri87⟩
    · skip
      have c88 := wt_nceq h28
      refine wt_T_some ?_
      exact ⟨(wt_fr.tr (wt_fr.tr wt_fr.rf fσ5 (fun i k h => by (try dsimp only at h); exact Or.inl (by first | exact h | omega)) (fun i h => h.elim)) f22 (fun i k h => by (try dsimp only at h); exact Or.inl (by first | exact h | omega)) (fun i h => h.elim)), ri23⟩
  · skip
    have c89 := wt_nceq h17
    unfold wp_md_want_B19
    have k90 : (1 : Int32).toInt = 1 := by decide
    refine wt_T_bi (wq_md_bad n hn (0 : Int32) (1 : Int32) σ5 rσ5 (by first | with_reducible assumption | omega)) (fun r91 h92 => ?_)
    obtain ⟨f93, ri94, pp95⟩ := h92
    have bb96 := wt_bd r91.1
    have bb97 := wt_bd (wt_gf r91.2 108 0)
    have bb98 := wt_bd (wt_gf σ5 108 0)
    refine wt_T_if (fun h99 => ?_) (fun h99 => ?_)
    · skip
      have c100 := wt_ceq h99
      refine wt_T_bi (wq_md_isCopies n hn x2 r91.2 ri94) (fun r101 h102 => ?_)
      obtain ⟨e103, pp104⟩ := h102
      have bb105 := wt_bd r101.1
      rw [e103]
      refine wt_T_if (fun h106 => ?_) (fun h106 => ?_)
      · skip
        have c107 := wt_ceq h106
        unfold wp_md_want_B56
        have g109 : 0 ≤ (wt_gf r91.2 108 39).toInt ∧ (wt_gf r91.2 108 39).toInt ≤ 8 := wt_Rf7 ri94
        have tt110 : (wt_gf r91.2 108 39).toInt = (wt_gf σ5 108 39).toInt := congrArg Int32.toInt (f93.1 108 39 (by (try dsimp only); omega))
        refine wt_T.imp (wq_md_want_B61 n hn x1 x2 x3 x4 (1 : Int32) r91.2 ri94 (by first | with_reducible assumption | omega)) (fun r111 h112 => ?_)
        have bb113 := wt_bd r111.1
        obtain ⟨f114, ri115⟩ := h112
        exact ⟨(wt_fr.tr (wt_fr.tr (wt_fr.tr wt_fr.rf fσ5 (fun i k h => by (try dsimp only at h); exact Or.inl (by first | exact h | omega)) (fun i h => h.elim)) f93 (fun i k h => by (try dsimp only at h); exact Or.inl (by first | exact h | omega)) (fun i h => h.elim)) f114 (fun i k h => by (try dsimp only at h); rcases h with h | h; exact Or.inl (by first | exact h | omega); exact Or.inr (by first | exact h | omega)) (fun i h => by (try dsimp only at h); exact (by first | exact h | omega))), ri115⟩
      · skip
        have c116 := wt_nceq h106
        have k117 : (99 : Int32).toInt = 99 := by decide
        refine wt_T_bi (wq_md_in n hn x3 (0 : Int32) (99 : Int32) r91.2 ri94) (fun r118 h119 => ?_)
        obtain ⟨e120, pp121⟩ := h119
        have bb122 := wt_bd r118.1
        rw [e120]
        refine wt_T_if (fun h123 => ?_) (fun h123 => ?_)
        · skip
          have c124 := wt_ceq h123
          unfold wp_md_want_B56
          have g126 : 0 ≤ (wt_gf r91.2 108 39).toInt ∧ (wt_gf r91.2 108 39).toInt ≤ 8 := wt_Rf7 ri94
          have tt127 : (wt_gf r91.2 108 39).toInt = (wt_gf σ5 108 39).toInt := congrArg Int32.toInt (f93.1 108 39 (by (try dsimp only); omega))
          refine wt_T.imp (wq_md_want_B61 n hn x1 x2 x3 x4 (1 : Int32) r91.2 ri94 (by first | with_reducible assumption | omega)) (fun r128 h129 => ?_)
          have bb130 := wt_bd r128.1
          obtain ⟨f131, ri132⟩ := h129
          exact ⟨(wt_fr.tr (wt_fr.tr (wt_fr.tr wt_fr.rf fσ5 (fun i k h => by (try dsimp only at h); exact Or.inl (by first | exact h | omega)) (fun i h => h.elim)) f93 (fun i k h => by (try dsimp only at h); exact Or.inl (by first | exact h | omega)) (fun i h => h.elim)) f131 (fun i k h => by (try dsimp only at h); rcases h with h | h; exact Or.inl (by first | exact h | omega); exact Or.inr (by first | exact h | omega)) (fun i h => by (try dsimp only at h); exact (by first | exact h | omega))), ri132⟩
        · skip
          have c133 := wt_nceq h123
          have k134 : (999 : Int32).toInt = 999 := by decide
          refine wt_T_bi (wq_md_in n hn x4 (1 : Int32) (999 : Int32) r91.2 ri94) (fun r135 h136 => ?_)
          obtain ⟨e137, pp138⟩ := h136
          have bb139 := wt_bd r135.1
          rw [e137]
          refine wt_T_if (fun h140 => ?_) (fun h140 => ?_)
          · skip
            have c141 := wt_ceq h140
            unfold wp_md_want_B56
            have g143 : 0 ≤ (wt_gf r91.2 108 39).toInt ∧ (wt_gf r91.2 108 39).toInt ≤ 8 := wt_Rf7 ri94
            have tt144 : (wt_gf r91.2 108 39).toInt = (wt_gf σ5 108 39).toInt := congrArg Int32.toInt (f93.1 108 39 (by (try dsimp only); omega))
            refine wt_T.imp (wq_md_want_B61 n hn x1 x2 x3 x4 (1 : Int32) r91.2 ri94 (by first | with_reducible assumption | omega)) (fun r145 h146 => ?_)
            have bb147 := wt_bd r145.1
            obtain ⟨f148, ri149⟩ := h146
            exact ⟨(wt_fr.tr (wt_fr.tr (wt_fr.tr wt_fr.rf fσ5 (fun i k h => by (try dsimp only at h); exact Or.inl (by first | exact h | omega)) (fun i h => h.elim)) f93 (fun i k h => by (try dsimp only at h); exact Or.inl (by first | exact h | omega)) (fun i h => h.elim)) f148 (fun i k h => by (try dsimp only at h); rcases h with h | h; exact Or.inl (by first | exact h | omega); exact Or.inr (by first | exact h | omega)) (fun i h => by (try dsimp only at h); exact (by first | exact h | omega))), ri149⟩
          · skip
            have c150 := wt_nceq h140
            have g152 : 0 ≤ (wt_gf r91.2 108 39).toInt ∧ (wt_gf r91.2 108 39).toInt ≤ 8 := wt_Rf7 ri94
            have tt153 : (wt_gf r91.2 108 39).toInt = (wt_gf σ5 108 39).toInt := congrArg Int32.toInt (f93.1 108 39 (by (try dsimp only); omega))
            refine wt_T.imp (wq_md_want_B61 n hn x1 x2 x3 x4 (0 : Int32) r91.2 ri94 (by first | with_reducible assumption | omega)) (fun r154 h155 => ?_)
            have bb156 := wt_bd r154.1
            obtain ⟨f157, ri158⟩ := h155
            exact ⟨(wt_fr.tr (wt_fr.tr (wt_fr.tr wt_fr.rf fσ5 (fun i k h => by (try dsimp only at h); exact Or.inl (by first | exact h | omega)) (fun i h => h.elim)) f93 (fun i k h => by (try dsimp only at h); exact Or.inl (by first | exact h | omega)) (fun i h => h.elim)) f157 (fun i k h => by (try dsimp only at h); rcases h with h | h; exact Or.inl (by first | exact h | omega); exact Or.inr (by first | exact h | omega)) (fun i h => by (try dsimp only at h); exact (by first | exact h | omega))), ri158⟩
    · skip
      have c159 := wt_nceq h99
      refine wt_T_some ?_
      exact ⟨(wt_fr.tr (wt_fr.tr wt_fr.rf fσ5 (fun i k h => by (try dsimp only at h); exact Or.inl (by first | exact h | omega)) (fun i h => h.elim)) f93 (fun i k h => by (try dsimp only at h); exact Or.inl (by first | exact h | omega)) (fun i h => h.elim)), ri94⟩
set_option maxRecDepth 100000 in
set_option maxHeartbeats 4000000 in
theorem wq_md_word_B41 (n : Nat) (hn : 4294967297 < n) (x1 : Int32) (x2 : Int32) (y1 : Int32) (σ : wt_St) (r0 : wt_RI σ) (p0 : y1.toInt ≠ 0 ∨ (0 ≤ x1.toInt ∧ x1.toInt < (wt_gf σ 108 28).toInt)) : wt_T (wp_md_word_B41 n x1 x2 y1 σ) (fun q => wt_fr (fun i k => (i = 108 ∧ k = 0)) (fun i => i = 287) σ q.2 ∧ wt_RI q.2) := by
  have bb1 := wt_bd x1
  have bb2 := wt_bd x2
  have bb3 := wt_bd y1
  have g5 : 0 ≤ (wt_gf σ 108 28).toInt ∧ (wt_gf σ 108 28).toInt ≤ 60 := wt_Rf6 r0
  unfold wp_md_word_B41
  have k6 : (2 : Int32).toInt = 2 := by decide
  refine wt_T_bi (wq_md_bad n hn y1 (2 : Int32) σ r0 (by first | with_reducible assumption | omega)) (fun r7 h8 => ?_)
  obtain ⟨f9, ri10, pp11⟩ := h8
  have bb12 := wt_bd r7.1
  have bb13 := wt_bd (wt_gf r7.2 108 0)
  have bb14 := wt_bd (wt_gf σ 108 0)
  have k15 : (0 : Int32).toInt = 0 := by decide
  refine wt_T_if (fun h16 => ?_) (fun h16 => ?_)
  · skip
    have c17 := wt_ceq h16
    refine wt_T_if (fun h18 => ?_) (fun h18 => ?_)
    · skip
      have c19 := wt_ceq h18
      refine wt_T_gd (wt_ix (by first | with_reducible assumption | omega) (by first | with_reducible assumption | omega)) ?_
      refine wt_T_some ?_
      exact ⟨(wt_fr.tr wt_fr.rf f9 (fun i k h => by (try dsimp only at h); exact (by first | exact h | omega)) (fun i h => h.elim)), ri10⟩
    · skip
      have c20 := wt_nceq h18
      have k21 : (1 : Int32).toInt = 1 := by decide
      refine wt_T_if (fun h22 => ?_) (fun h22 => ?_)
      · skip
        have c23 := wt_ceq h22
        refine wt_T_gd (wt_ix (by first | with_reducible assumption | omega) (by first | with_reducible assumption | omega)) ?_
        refine wt_T_some ?_
        exact ⟨(wt_fr.tr wt_fr.rf f9 (fun i k h => by (try dsimp only at h); exact (by first | exact h | omega)) (fun i h => h.elim)), ri10⟩
      · skip
        have c24 := wt_nceq h22
        refine wt_T_if (fun h25 => ?_) (fun h25 => ?_)
        · skip
          have c26 := wt_ceq h25
          refine wt_T_gd (wt_ix (by first | with_reducible assumption | omega) (by first | with_reducible assumption | omega)) ?_
          refine wt_T_some ?_
          exact ⟨(wt_fr.tr wt_fr.rf f9 (fun i k h => by (try dsimp only at h); exact (by first | exact h | omega)) (fun i h => h.elim)), ri10⟩
        · skip
          have c27 := wt_nceq h25
          have k28 : (3 : Int32).toInt = 3 := by decide
          refine wt_T_if (fun h29 => ?_) (fun h29 => ?_)
          · skip
            have c30 := wt_ceq h29
            refine wt_T_bi (wq_md_priceOf n hn x1 r7.2 ri10 (by first | with_reducible assumption | omega) (by first | with_reducible assumption | omega)) (fun r31 h32 => ?_)
            have e33 := h32
            have bb34 := wt_bd r31.1
            rw [e33]
            refine wt_T_some ?_
            exact ⟨(wt_fr.tr wt_fr.rf f9 (fun i k h => by (try dsimp only at h); exact (by first | exact h | omega)) (fun i h => h.elim)), ri10⟩
          · skip
            have c35 := wt_nceq h29
            refine wt_T_bi (wq_md_canWord n hn x1 r7.2 ri10 (by first | with_reducible assumption | omega) (by first | with_reducible assumption | omega)) (fun r36 h37 => ?_)
            obtain ⟨f38, ri39, pp40⟩ := h37
            have bb41 := wt_bd r36.1
            refine wt_T_some ?_
            exact ⟨(wt_fr.tr (wt_fr.tr wt_fr.rf f9 (fun i k h => by (try dsimp only at h); exact (by first | exact h | omega)) (fun i h => h.elim)) f38 (fun i k h => h.elim) (fun i h => by (try dsimp only at h); exact (by first | exact h | omega))), ri39⟩
  · skip
    have c42 := wt_nceq h16
    refine wt_T_some ?_
    exact ⟨(wt_fr.tr wt_fr.rf f9 (fun i k h => by (try dsimp only at h); exact (by first | exact h | omega)) (fun i h => h.elim)), ri10⟩
set_option maxRecDepth 100000 in
set_option maxHeartbeats 4000000 in
theorem wq_md_word (n : Nat) (hn : 4294967297 < n) (x1 : Int32) (x2 : Int32) (σ : wt_St) (r0 : wt_RI σ) : wt_T (wp_md_word n x1 x2 σ) (fun q => wt_fr (fun i k => (i = 108 ∧ k = 0)) (fun i => i = 287) σ q.2 ∧ wt_RI q.2) := by
  have bb1 := wt_bd x1
  have bb2 := wt_bd x2
  unfold wp_md_word
  obtain ⟨σ3, eσ3⟩ : ∃ z : wt_St, z = wt_sf σ 108 0 (0 : Int32) := ⟨_, rfl⟩
  rw [← eσ3]
  have fσ3 := wt_fr_sf eσ3
  have vσ3 := wt_ceq (wt_v_sf eσ3)
  have k4 : (0 : Int32).toInt = 0 := by decide
  have rσ3 := wt_RI_fno r0 eσ3 (Or.inr (by decide +kernel))
  refine wt_T_bi (wq_md_isWordNumber n hn x1 σ3 rσ3) (fun r5 h6 => ?_)
  obtain ⟨e7, pp8⟩ := h6
  have bb9 := wt_bd r5.1
  rw [e7]
  have g11 : 0 ≤ (wt_gf σ3 108 28).toInt ∧ (wt_gf σ3 108 28).toInt ≤ 60 := wt_Rf6 rσ3
  have tt12 : (wt_gf σ3 108 28).toInt = (wt_gf σ 108 28).toInt := congrArg Int32.toInt (fσ3.1 108 28 (by (try dsimp only); omega))
  refine wt_T_if (fun h15 => ?_) (fun h15 => ?_)
  · skip
    have c16 := wt_ceq h15
    unfold wp_md_word_B19
    have k17 : (1 : Int32).toInt = 1 := by decide
    refine wt_T_bi (wq_md_bad n hn (1 : Int32) (1 : Int32) σ3 rσ3 (by first | with_reducible assumption | omega)) (fun r18 h19 => ?_)
    obtain ⟨f20, ri21, pp22⟩ := h19
    have bb23 := wt_bd r18.1
    have bb24 := wt_bd (wt_gf r18.2 108 0)
    have bb25 := wt_bd (wt_gf σ3 108 0)
    refine wt_T_if (fun h26 => ?_) (fun h26 => ?_)
    · skip
      have c27 := wt_ceq h26
      have k28 : (4 : Int32).toInt = 4 := by decide
      refine wt_T_bi (wq_md_in n hn x2 (0 : Int32) (4 : Int32) r18.2 ri21) (fun r29 h30 => ?_)
      obtain ⟨e31, pp32⟩ := h30
      have bb33 := wt_bd r29.1
      rw [e31]
      refine wt_T_if (fun h34 => ?_) (fun h34 => ?_)
      · skip
        have c35 := wt_ceq h34
        have g37 : 0 ≤ (wt_gf r18.2 108 28).toInt ∧ (wt_gf r18.2 108 28).toInt ≤ 60 := wt_Rf6 ri21
        have tt38 : (wt_gf r18.2 108 28).toInt = (wt_gf σ3 108 28).toInt := congrArg Int32.toInt (f20.1 108 28 (by (try dsimp only); omega))
        refine wt_T.imp (wq_md_word_B41 n hn x1 x2 (1 : Int32) r18.2 ri21 (by first | with_reducible assumption | omega)) (fun r39 h40 => ?_)
        have bb41 := wt_bd r39.1
        obtain ⟨f42, ri43⟩ := h40
        exact ⟨(wt_fr.tr (wt_fr.tr (wt_fr.tr wt_fr.rf fσ3 (fun i k h => by (try dsimp only at h); exact (by first | exact h | omega)) (fun i h => h.elim)) f20 (fun i k h => by (try dsimp only at h); exact (by first | exact h | omega)) (fun i h => h.elim)) f42 (fun i k h => by (try dsimp only at h); exact (by first | exact h | omega)) (fun i h => by (try dsimp only at h); exact (by first | exact h | omega))), ri43⟩
      · skip
        have c44 := wt_nceq h34
        have g46 : 0 ≤ (wt_gf r18.2 108 28).toInt ∧ (wt_gf r18.2 108 28).toInt ≤ 60 := wt_Rf6 ri21
        have tt47 : (wt_gf r18.2 108 28).toInt = (wt_gf σ3 108 28).toInt := congrArg Int32.toInt (f20.1 108 28 (by (try dsimp only); omega))
        refine wt_T.imp (wq_md_word_B41 n hn x1 x2 (0 : Int32) r18.2 ri21 (by first | with_reducible assumption | omega)) (fun r48 h49 => ?_)
        have bb50 := wt_bd r48.1
        obtain ⟨f51, ri52⟩ := h49
        exact ⟨(wt_fr.tr (wt_fr.tr (wt_fr.tr wt_fr.rf fσ3 (fun i k h => by (try dsimp only at h); exact (by first | exact h | omega)) (fun i h => h.elim)) f20 (fun i k h => by (try dsimp only at h); exact (by first | exact h | omega)) (fun i h => h.elim)) f51 (fun i k h => by (try dsimp only at h); exact (by first | exact h | omega)) (fun i h => by (try dsimp only at h); exact (by first | exact h | omega))), ri52⟩
    · skip
      have c53 := wt_nceq h26
      refine wt_T_some ?_
      exact ⟨(wt_fr.tr (wt_fr.tr wt_fr.rf fσ3 (fun i k h => by (try dsimp only at h); exact (by first | exact h | omega)) (fun i h => h.elim)) f20 (fun i k h => by (try dsimp only at h); exact (by first | exact h | omega)) (fun i h => h.elim)), ri21⟩
  · skip
    have c54 := wt_nceq h15
    unfold wp_md_word_B19
    have k55 : (1 : Int32).toInt = 1 := by decide
    refine wt_T_bi (wq_md_bad n hn (0 : Int32) (1 : Int32) σ3 rσ3 (by first | with_reducible assumption | omega)) (fun r56 h57 => ?_)
    obtain ⟨f58, ri59, pp60⟩ := h57
    have bb61 := wt_bd r56.1
    have bb62 := wt_bd (wt_gf r56.2 108 0)
    have bb63 := wt_bd (wt_gf σ3 108 0)
    refine wt_T_if (fun h64 => ?_) (fun h64 => ?_)
    · skip
      have c65 := wt_ceq h64
      have k66 : (4 : Int32).toInt = 4 := by decide
      refine wt_T_bi (wq_md_in n hn x2 (0 : Int32) (4 : Int32) r56.2 ri59) (fun r67 h68 => ?_)
      obtain ⟨e69, pp70⟩ := h68
      have bb71 := wt_bd r67.1
      rw [e69]
      refine wt_T_if (fun h72 => ?_) (fun h72 => ?_)
      · skip
        have c73 := wt_ceq h72
        have g75 : 0 ≤ (wt_gf r56.2 108 28).toInt ∧ (wt_gf r56.2 108 28).toInt ≤ 60 := wt_Rf6 ri59
        have tt76 : (wt_gf r56.2 108 28).toInt = (wt_gf σ3 108 28).toInt := congrArg Int32.toInt (f58.1 108 28 (by (try dsimp only); omega))
        refine wt_T.imp (wq_md_word_B41 n hn x1 x2 (1 : Int32) r56.2 ri59 (by first | with_reducible assumption | omega)) (fun r77 h78 => ?_)
        have bb79 := wt_bd r77.1
        obtain ⟨f80, ri81⟩ := h78
        exact ⟨(wt_fr.tr (wt_fr.tr (wt_fr.tr wt_fr.rf fσ3 (fun i k h => by (try dsimp only at h); exact (by first | exact h | omega)) (fun i h => h.elim)) f58 (fun i k h => by (try dsimp only at h); exact (by first | exact h | omega)) (fun i h => h.elim)) f80 (fun i k h => by (try dsimp only at h); exact (by first | exact h | omega)) (fun i h => by (try dsimp only at h); exact (by first | exact h | omega))), ri81⟩
      · skip
        have c82 := wt_nceq h72
        have g84 : 0 ≤ (wt_gf r56.2 108 28).toInt ∧ (wt_gf r56.2 108 28).toInt ≤ 60 := wt_Rf6 ri59
        have tt85 : (wt_gf r56.2 108 28).toInt = (wt_gf σ3 108 28).toInt := congrArg Int32.toInt (f58.1 108 28 (by (try dsimp only); omega))
        refine wt_T.imp (wq_md_word_B41 n hn x1 x2 (0 : Int32) r56.2 ri59 (by first | with_reducible assumption | omega)) (fun r86 h87 => ?_)
        have bb88 := wt_bd r86.1
        obtain ⟨f89, ri90⟩ := h87
        exact ⟨(wt_fr.tr (wt_fr.tr (wt_fr.tr wt_fr.rf fσ3 (fun i k h => by (try dsimp only at h); exact (by first | exact h | omega)) (fun i h => h.elim)) f58 (fun i k h => by (try dsimp only at h); exact (by first | exact h | omega)) (fun i h => h.elim)) f89 (fun i k h => by (try dsimp only at h); exact (by first | exact h | omega)) (fun i h => by (try dsimp only at h); exact (by first | exact h | omega))), ri90⟩
    · skip
      have c91 := wt_nceq h64
      refine wt_T_some ?_
      exact ⟨(wt_fr.tr (wt_fr.tr wt_fr.rf fσ3 (fun i k h => by (try dsimp only at h); exact (by first | exact h | omega)) (fun i h => h.elim)) f58 (fun i k h => by (try dsimp only at h); exact (by first | exact h | omega)) (fun i h => h.elim)), ri59⟩
set_option maxRecDepth 100000 in
set_option maxHeartbeats 4000000 in
theorem wq_md_wordings (n : Nat) (hn : 4294967297 < n) (x1 : Int32) (σ : wt_St) (r0 : wt_RI σ) : wt_T (wp_md_wordings n x1 σ) (fun q => wt_fr (fun i k => (i = 108 ∧ k = 0)) (fun i => (292 ≤ i ∧ i < 304) ∨ (305 ≤ i ∧ i < 317)) σ q.2 ∧ wt_RI q.2) := by
  have bb1 := wt_bd x1
  unfold wp_md_wordings
  obtain ⟨σ2, eσ2⟩ : ∃ z : wt_St, z = wt_sf σ 108 0 (0 : Int32) := ⟨_, rfl⟩
  rw [← eσ2]
  have fσ2 := wt_fr_sf eσ2
  have vσ2 := wt_ceq (wt_v_sf eσ2)
  have k3 : (0 : Int32).toInt = 0 := by decide
  have rσ2 := wt_RI_fno r0 eσ2 (Or.inr (by decide +kernel))
  refine wt_T_bi (wq_md_isText n hn x1 σ2 rσ2) (fun r4 h5 => ?_)
  obtain ⟨e6, pp7⟩ := h5
  have bb8 := wt_bd r4.1
  rw [e6]
  have g10 : 0 ≤ (wt_gf σ2 108 39).toInt ∧ (wt_gf σ2 108 39).toInt ≤ 8 := wt_Rf7 rσ2
  have tt11 : (wt_gf σ2 108 39).toInt = (wt_gf σ 108 39).toInt := congrArg Int32.toInt (fσ2.1 108 39 (by (try dsimp only); omega))
  refine wt_T_if (fun h14 => ?_) (fun h14 => ?_)
  · skip
    have c15 := wt_ceq h14
    unfold wp_md_wordings_B19
    have k16 : (1 : Int32).toInt = 1 := by decide
    refine wt_T_bi (wq_md_bad n hn (1 : Int32) (1 : Int32) σ2 rσ2 (by first | with_reducible assumption | omega)) (fun r17 h18 => ?_)
    obtain ⟨f19, ri20, pp21⟩ := h18
    have bb22 := wt_bd r17.1
    have bb23 := wt_bd (wt_gf r17.2 108 0)
    have bb24 := wt_bd (wt_gf σ2 108 0)
    refine wt_T_if (fun h25 => ?_) (fun h25 => ?_)
    · skip
      have c26 := wt_ceq h25
      refine wt_T_bi (wq_md_laysRests n hn x1 r17.2 ri20 (by first | with_reducible assumption | omega) (by first | with_reducible assumption | omega)) (fun r27 h28 => ?_)
      obtain ⟨f29, ri30⟩ := h28
      refine wt_T_it (fun s : Int32 × Int32 × wt_St => s.2.2 = r27 ∧ 0 ≤ (s.2.1).toInt) (fun s : Int32 × Int32 × wt_St => ((wt_gf s.2.2 108 28).toInt - s.2.1.toInt + 0).toNat) (fun KK31 z32 I33 hKK31 => ?_) _ _ ?_ ?_
      · skip
        obtain ⟨l34, l35⟩ := I33
        unfold wp_md_wordings_B37
        rw [l34]
        have g37 : 0 ≤ (wt_gf r27 108 28).toInt ∧ (wt_gf r27 108 28).toInt ≤ 60 := wt_Rf6 ri30
        have tt38 : (wt_gf r27 108 28).toInt = (wt_gf r17.2 108 28).toInt := congrArg Int32.toInt (f29.1 108 28 (fun z => z))
        have tt41 : (wt_gf r17.2 108 28).toInt = (wt_gf σ2 108 28).toInt := congrArg Int32.toInt (f19.1 108 28 (by (try dsimp only); omega))
        have tt44 : (wt_gf σ2 108 28).toInt = (wt_gf σ 108 28).toInt := congrArg Int32.toInt (fσ2.1 108 28 (by (try dsimp only); omega))
        have bb47 := wt_bd z32.2.1
        refine wt_T_if (fun h48 => ?_) (fun h48 => ?_)
        · skip
          have c49 := wt_cle h48
          refine wt_T_some ?_
          exact ⟨(wt_fr.tr (wt_fr.tr (wt_fr.tr wt_fr.rf fσ2 (fun i k h => by (try dsimp only at h); exact (by first | exact h | omega)) (fun i h => h.elim)) f19 (fun i k h => by (try dsimp only at h); exact (by first | exact h | omega)) (fun i h => h.elim)) f29 (fun i k h => h.elim) (fun i h => by (try dsimp only at h); rcases h with h | h; exact Or.inl (by first | exact h | omega); exact Or.inr (by first | exact h | omega))), ri30⟩
        · skip
          have c50 := wt_ncle h48
          refine wt_T_gd (wt_ix (by first | with_reducible assumption | omega) (by first | with_reducible assumption | omega)) ?_
          refine wt_T_gd (wt_ix (by first | with_reducible assumption | omega) (by first | with_reducible assumption | omega)) ?_
          have bb51 := wt_bd z32.1
          have bb52 := wt_tn (0 : Int32)
          have bb53 := wt_tn z32.2.1
          have bb54 := wt_bd (wt_ga r27 (305 + (Int32.toNatClampNeg (0 : Int32))) (Int32.toNatClampNeg z32.2.1))
          obtain ⟨j55, j55a, j55b⟩ := wt_addI z32.1 (wt_ga r27 (305 + (Int32.toNatClampNeg (0 : Int32))) (Int32.toNatClampNeg z32.2.1))
          have k56 : (1000000 : Int32).toInt = 1000000 := by decide
          refine wt_T_if (fun h57 => ?_) (fun h57 => ?_)
          · skip
            have c58 := wt_cle h57
            refine wt_T_gd (wt_ix (by first | with_reducible assumption | omega) (by first | with_reducible assumption | omega)) ?_
            refine wt_T_gd (wt_ix (by first | with_reducible assumption | omega) (by first | with_reducible assumption | omega)) ?_
            unfold wp_md_wordings_B77
            refine hKK31 _ ⟨rfl, (wt_nn (B := wt_gf z32.2.2 108 28) (by first | with_reducible assumption | omega) (by first | (rw [l34]; omega) | (rw [l34]; done) | omega))⟩ ?_
            show ((wt_gf r27 108 28).toInt - (z32.2.1 + (1 : Int32)).toInt + 0).toNat < ((wt_gf z32.2.2 108 28).toInt - z32.2.1.toInt + 0).toNat
            exact wt_mu (by first | (rw [l34]; omega) | (rw [l34]; done) | omega) (by first | (rw [l34]; omega) | (rw [l34]; done) | omega)
          · skip
            have c59 := wt_ncle h57
            unfold wp_md_wordings_B77
            refine hKK31 _ ⟨rfl, (wt_nn (B := wt_gf z32.2.2 108 28) (by first | with_reducible assumption | omega) (by first | (rw [l34]; omega) | (rw [l34]; done) | omega))⟩ ?_
            show ((wt_gf r27 108 28).toInt - (z32.2.1 + (1 : Int32)).toInt + 0).toNat < ((wt_gf z32.2.2 108 28).toInt - z32.2.1.toInt + 0).toNat
            exact wt_mu (by first | (rw [l34]; omega) | (rw [l34]; done) | omega) (by first | (rw [l34]; omega) | (rw [l34]; done) | omega)
      · skip
        have g61 : 0 ≤ (wt_gf r27 108 28).toInt ∧ (wt_gf r27 108 28).toInt ≤ 60 := wt_Rf6 ri30
        have tt62 : (wt_gf r27 108 28).toInt = (wt_gf r17.2 108 28).toInt := congrArg Int32.toInt (f29.1 108 28 (fun z => z))
        have tt65 : (wt_gf r17.2 108 28).toInt = (wt_gf σ2 108 28).toInt := congrArg Int32.toInt (f19.1 108 28 (by (try dsimp only); omega))
        have tt68 : (wt_gf σ2 108 28).toInt = (wt_gf σ 108 28).toInt := congrArg Int32.toInt (fσ2.1 108 28 (by (try dsimp only); omega))
        exact ⟨rfl, (show 0 ≤ ((0 : Int32)).toInt by omega)⟩
      · skip
        have g72 : 0 ≤ (wt_gf r27 108 28).toInt ∧ (wt_gf r27 108 28).toInt ≤ 60 := wt_Rf6 ri30
        have tt73 : (wt_gf r27 108 28).toInt = (wt_gf r17.2 108 28).toInt := congrArg Int32.toInt (f29.1 108 28 (fun z => z))
        have tt76 : (wt_gf r17.2 108 28).toInt = (wt_gf σ2 108 28).toInt := congrArg Int32.toInt (f19.1 108 28 (by (try dsimp only); omega))
        have tt79 : (wt_gf σ2 108 28).toInt = (wt_gf σ 108 28).toInt := congrArg Int32.toInt (fσ2.1 108 28 (by (try dsimp only); omega))
        show ((wt_gf r27 108 28).toInt - (0 : Int32).toInt + 0).toNat < n
        omega
    · skip
      have c82 := wt_nceq h25
      refine wt_T_some ?_
      exact ⟨(wt_fr.tr (wt_fr.tr wt_fr.rf fσ2 (fun i k h => by (try dsimp only at h); exact (by first | exact h | omega)) (fun i h => h.elim)) f19 (fun i k h => by (try dsimp only at h); exact (by first | exact h | omega)) (fun i h => h.elim)), ri20⟩
  · skip
    have c83 := wt_nceq h14
    unfold wp_md_wordings_B19
    have k84 : (1 : Int32).toInt = 1 := by decide
    refine wt_T_bi (wq_md_bad n hn (0 : Int32) (1 : Int32) σ2 rσ2 (by first | with_reducible assumption | omega)) (fun r85 h86 => ?_)
    obtain ⟨f87, ri88, pp89⟩ := h86
    have bb90 := wt_bd r85.1
    have bb91 := wt_bd (wt_gf r85.2 108 0)
    have bb92 := wt_bd (wt_gf σ2 108 0)
    refine wt_T_if (fun h93 => ?_) (fun h93 => ?_)
    · skip
      have c94 := wt_ceq h93
      refine wt_T_bi (wq_md_laysRests n hn x1 r85.2 ri88 (by first | with_reducible assumption | omega) (by first | with_reducible assumption | omega)) (fun r95 h96 => ?_)
      obtain ⟨f97, ri98⟩ := h96
      refine wt_T_it (fun s : Int32 × Int32 × wt_St => s.2.2 = r95 ∧ 0 ≤ (s.2.1).toInt) (fun s : Int32 × Int32 × wt_St => ((wt_gf s.2.2 108 28).toInt - s.2.1.toInt + 0).toNat) (fun KK99 z100 I101 hKK99 => ?_) _ _ ?_ ?_
      · skip
        obtain ⟨l102, l103⟩ := I101
        unfold wp_md_wordings_B37
        rw [l102]
        have g105 : 0 ≤ (wt_gf r95 108 28).toInt ∧ (wt_gf r95 108 28).toInt ≤ 60 := wt_Rf6 ri98
        have tt106 : (wt_gf r95 108 28).toInt = (wt_gf r85.2 108 28).toInt := congrArg Int32.toInt (f97.1 108 28 (fun z => z))
        have tt109 : (wt_gf r85.2 108 28).toInt = (wt_gf σ2 108 28).toInt := congrArg Int32.toInt (f87.1 108 28 (by (try dsimp only); omega))
        have tt112 : (wt_gf σ2 108 28).toInt = (wt_gf σ 108 28).toInt := congrArg Int32.toInt (fσ2.1 108 28 (by (try dsimp only); omega))
        have bb115 := wt_bd z100.2.1
        refine wt_T_if (fun h116 => ?_) (fun h116 => ?_)
        · skip
          have c117 := wt_cle h116
          refine wt_T_some ?_
          exact ⟨(wt_fr.tr (wt_fr.tr (wt_fr.tr wt_fr.rf fσ2 (fun i k h => by (try dsimp only at h); exact (by first | exact h | omega)) (fun i h => h.elim)) f87 (fun i k h => by (try dsimp only at h); exact (by first | exact h | omega)) (fun i h => h.elim)) f97 (fun i k h => h.elim) (fun i h => by (try dsimp only at h); rcases h with h | h; exact Or.inl (by first | exact h | omega); exact Or.inr (by first | exact h | omega))), ri98⟩
        · skip
          have c118 := wt_ncle h116
          refine wt_T_gd (wt_ix (by first | with_reducible assumption | omega) (by first | with_reducible assumption | omega)) ?_
          refine wt_T_gd (wt_ix (by first | with_reducible assumption | omega) (by first | with_reducible assumption | omega)) ?_
          have bb119 := wt_bd z100.1
          have bb120 := wt_tn (0 : Int32)
          have bb121 := wt_tn z100.2.1
          have bb122 := wt_bd (wt_ga r95 (305 + (Int32.toNatClampNeg (0 : Int32))) (Int32.toNatClampNeg z100.2.1))
          obtain ⟨j123, j123a, j123b⟩ := wt_addI z100.1 (wt_ga r95 (305 + (Int32.toNatClampNeg (0 : Int32))) (Int32.toNatClampNeg z100.2.1))
          have k124 : (1000000 : Int32).toInt = 1000000 := by decide
          refine wt_T_if (fun h125 => ?_) (fun h125 => ?_)
          · skip
            have c126 := wt_cle h125
            refine wt_T_gd (wt_ix (by first | with_reducible assumption | omega) (by first | with_reducible assumption | omega)) ?_
            refine wt_T_gd (wt_ix (by first | with_reducible assumption | omega) (by first | with_reducible assumption | omega)) ?_
            unfold wp_md_wordings_B77
            refine hKK99 _ ⟨rfl, (wt_nn (B := wt_gf z100.2.2 108 28) (by first | with_reducible assumption | omega) (by first | (rw [l102]; omega) | (rw [l102]; done) | omega))⟩ ?_
            show ((wt_gf r95 108 28).toInt - (z100.2.1 + (1 : Int32)).toInt + 0).toNat < ((wt_gf z100.2.2 108 28).toInt - z100.2.1.toInt + 0).toNat
            exact wt_mu (by first | (rw [l102]; omega) | (rw [l102]; done) | omega) (by first | (rw [l102]; omega) | (rw [l102]; done) | omega)
          · skip
            have c127 := wt_ncle h125
            unfold wp_md_wordings_B77
            refine hKK99 _ ⟨rfl, (wt_nn (B := wt_gf z100.2.2 108 28) (by first | with_reducible assumption | omega) (by first | (rw [l102]; omega) | (rw [l102]; done) | omega))⟩ ?_
            show ((wt_gf r95 108 28).toInt - (z100.2.1 + (1 : Int32)).toInt + 0).toNat < ((wt_gf z100.2.2 108 28).toInt - z100.2.1.toInt + 0).toNat
            exact wt_mu (by first | (rw [l102]; omega) | (rw [l102]; done) | omega) (by first | (rw [l102]; omega) | (rw [l102]; done) | omega)
      · skip
        have g129 : 0 ≤ (wt_gf r95 108 28).toInt ∧ (wt_gf r95 108 28).toInt ≤ 60 := wt_Rf6 ri98
        have tt130 : (wt_gf r95 108 28).toInt = (wt_gf r85.2 108 28).toInt := congrArg Int32.toInt (f97.1 108 28 (fun z => z))
        have tt133 : (wt_gf r85.2 108 28).toInt = (wt_gf σ2 108 28).toInt := congrArg Int32.toInt (f87.1 108 28 (by (try dsimp only); omega))
        have tt136 : (wt_gf σ2 108 28).toInt = (wt_gf σ 108 28).toInt := congrArg Int32.toInt (fσ2.1 108 28 (by (try dsimp only); omega))
        exact ⟨rfl, (show 0 ≤ ((0 : Int32)).toInt by omega)⟩
      · skip
        have g140 : 0 ≤ (wt_gf r95 108 28).toInt ∧ (wt_gf r95 108 28).toInt ≤ 60 := wt_Rf6 ri98
        have tt141 : (wt_gf r95 108 28).toInt = (wt_gf r85.2 108 28).toInt := congrArg Int32.toInt (f97.1 108 28 (fun z => z))
        have tt144 : (wt_gf r85.2 108 28).toInt = (wt_gf σ2 108 28).toInt := congrArg Int32.toInt (f87.1 108 28 (by (try dsimp only); omega))
        have tt147 : (wt_gf σ2 108 28).toInt = (wt_gf σ 108 28).toInt := congrArg Int32.toInt (fσ2.1 108 28 (by (try dsimp only); omega))
        show ((wt_gf r95 108 28).toInt - (0 : Int32).toInt + 0).toNat < n
        omega
    · skip
      have c150 := wt_nceq h93
      refine wt_T_some ?_
      exact ⟨(wt_fr.tr (wt_fr.tr wt_fr.rf fσ2 (fun i k h => by (try dsimp only at h); exact (by first | exact h | omega)) (fun i h => h.elim)) f87 (fun i k h => by (try dsimp only at h); exact (by first | exact h | omega)) (fun i h => h.elim)), ri88⟩
