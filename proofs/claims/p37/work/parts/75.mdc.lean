set_option maxRecDepth 100000 in
set_option maxHeartbeats 4000000 in
theorem wq_md_laysRests (n : Nat) (hn : 4294967297 < n) (x1 : Int32) (σ : wt_St) (r0 : wt_RI σ) (p0 : 0 ≤ x1.toInt) (p1 : x1.toInt ≤ 7) : wt_T (wp_md_laysRests n x1 σ) (fun q => wt_fr (fun i k => False) (fun i => (292 ≤ i ∧ i < 304) ∨ (305 ≤ i ∧ i < 317)) σ q ∧ wt_RI q) := by
  have bb1 := wt_bd x1
  unfold wp_md_laysRests
  have k0 : (0 : Int32).toInt = 0 := by decide
  refine wt_T_gd (wt_ix (by first | with_reducible assumption | omega) (by first | with_reducible assumption | omega)) ?_
  have bb9 := wt_tn x1
  have g11 : 0 ≤ (wt_ga σ 253 (Int32.toNatClampNeg x1)).toInt ∧ (wt_ga σ 253 (Int32.toNatClampNeg x1)).toInt ≤ 12 := wt_Ra9 r0 253 (by decide) (by decide) (Int32.toNatClampNeg x1)
  have k12 : (1 : Int32).toInt = 1 := by decide
  obtain ⟨j13, j13a, j13b⟩ := wt_subI (wt_ga σ 253 (Int32.toNatClampNeg x1)) (1 : Int32)
  refine wt_T_it (fun s : Int32 × wt_St => wt_fr (fun i k => False) (fun i => (292 ≤ i ∧ i < 304) ∨ (305 ≤ i ∧ i < 317)) σ s.2 ∧ s.1.toInt < (wt_ga σ 253 (Int32.toNatClampNeg x1)).toInt ∧ -1 ≤ s.1.toInt ∧ wt_RI s.2) (fun s : Int32 × wt_St => (s.1.toInt + 1).toNat) (fun KK2 z3 I4 hKK2 => ?_) _ _ ?_ ?_
  · skip
    obtain ⟨l5, l6, l7, l8⟩ := I4
    unfold wp_md_laysRests_B9
    have bb14 := wt_bd z3.1
    refine wt_T_if (fun h15 => ?_) (fun h15 => ?_)
    · skip
      have c16 := wt_clt h15
      refine wt_T_some ?_
      exact ⟨(wt_fr.tr wt_fr.rf l5 (fun i k h => h.elim) (fun i h => by (try dsimp only at h); rcases h with h | h; exact Or.inl (by first | exact h | omega); exact Or.inr (by first | exact h | omega))), l8⟩
    · skip
      have c17 := wt_ncl h15
      refine wt_T_it (fun s : Int32 × wt_St => wt_fr (fun i k => False) (fun i => (292 ≤ i ∧ i < 304) ∨ (305 ≤ i ∧ i < 317)) z3.2 s.2 ∧ 0 ≤ (s.1).toInt ∧ wt_RI s.2) (fun s : Int32 × wt_St => ((wt_gf s.2 108 28).toInt - s.1.toInt + 0).toNat) (fun KK18 z19 I20 hKK18 => ?_) _ _ ?_ ?_
      · skip
        obtain ⟨l21, l22, l23⟩ := I20
        unfold wp_md_laysRests_B15
        have g25 : 0 ≤ (wt_gf z19.2 108 28).toInt ∧ (wt_gf z19.2 108 28).toInt ≤ 60 := wt_Rf6 l23
        have tt26 : (wt_gf z19.2 108 28).toInt = (wt_gf z3.2 108 28).toInt := congrArg Int32.toInt (l21.1 108 28 (fun z => z))
        have tt29 : (wt_gf z3.2 108 28).toInt = (wt_gf σ 108 28).toInt := congrArg Int32.toInt (l5.1 108 28 (fun z => z))
        have bb32 := wt_bd z19.1
        refine wt_T_if (fun h33 => ?_) (fun h33 => ?_)
        · skip
          have c34 := wt_cle h33
          have k35 := wt_lm1
          have k36 := wt_lm1
          refine hKK2 _ ⟨(wt_fr.tr (wt_fr.tr wt_fr.rf l5 (fun i k h => h.elim) (fun i h => by (try dsimp only at h); rcases h with h | h; exact Or.inl (by first | exact h | omega); exact Or.inr (by first | exact h | omega))) l21 (fun i k h => h.elim) (fun i h => by (try dsimp only at h); rcases h with h | h; exact Or.inl (by first | exact h | omega); exact Or.inr (by first | exact h | omega))), (show (z3.1 + (-1 : Int32)).toInt < (wt_ga σ 253 (Int32.toNatClampNeg x1)).toInt by rw [wt_d1 (by first | with_reducible assumption | omega)]; omega), (show -1 ≤ (z3.1 + (-1 : Int32)).toInt by rw [wt_d1 (by first | with_reducible assumption | omega)]; omega), l23⟩ ?_
          show ((z3.1 + (-1 : Int32)).toInt + 1).toNat < (z3.1.toInt + 1).toNat
          exact wt_md1 (by first | with_reducible assumption | omega)
        · skip
          have c37 := wt_ncle h33
          refine wt_T_gd (wt_ix (by first | with_reducible assumption | omega) (by first | with_reducible assumption | omega)) ?_
          refine wt_T_gd (wt_ix (by first | with_reducible assumption | omega) (by first | with_reducible assumption | omega)) ?_
          refine wt_T_gd (wt_ix (by first | with_reducible assumption | omega) (by first | with_reducible assumption | omega)) ?_
          refine wt_T_gd (wt_ix (by first | with_reducible assumption | omega) (by first | with_reducible assumption | omega)) ?_
          obtain ⟨σ38, eσ38⟩ : ∃ z : wt_St, z = wt_sa z19.2 (292 + (Int32.toNatClampNeg z3.1)) (Int32.toNatClampNeg z19.1) (-1 : Int32) := ⟨_, rfl⟩
          rw [← eσ38]
          have fσ38 := wt_fr_sa eσ38
          have vσ38 := wt_ceq (wt_v_sa eσ38)
          have bb39 := wt_tn z19.1
          have bb40 := wt_tn z3.1
          have rσ38 := wt_RI_no l23 eσ38 292 304 (by decide +kernel) (by first | with_reducible assumption | omega) (by first | with_reducible assumption | omega)
          obtain ⟨σ41, eσ41⟩ : ∃ z : wt_St, z = wt_sa σ38 (305 + (Int32.toNatClampNeg z3.1)) (Int32.toNatClampNeg z19.1) (0 : Int32) := ⟨_, rfl⟩
          rw [← eσ41]
          have fσ41 := wt_fr_sa eσ41
          have vσ41 := wt_ceq (wt_v_sa eσ41)
          have rσ41 := wt_RI_no rσ38 eσ41 305 317 (by decide +kernel) (by first | with_reducible assumption | omega) (by first | with_reducible assumption | omega)
          refine wt_T_bi (wq_md_isOf n hn z19.1 x1 z3.1 σ41 rσ41 (by first | with_reducible assumption | omega) (by first | with_reducible assumption | omega) (by first | with_reducible assumption | omega) (by first | with_reducible assumption | omega) (by first | with_reducible assumption | omega) (by first | with_reducible assumption | omega)) (fun r42 h43 => ?_)
          have e44 := h43
          have bb45 := wt_bd r42.1
          rw [e44]
          refine wt_T_if (fun h46 => ?_) (fun h46 => ?_)
          · skip
            have c47 := wt_ceq h46
            unfold wp_md_laysRests_B279
            have g49 : 0 ≤ (wt_gf σ41 108 28).toInt ∧ (wt_gf σ41 108 28).toInt ≤ 60 := wt_Rf6 rσ41
            have tt50 : (wt_gf σ41 108 28).toInt = (wt_gf σ38 108 28).toInt := congrArg Int32.toInt (fσ41.1 108 28 (fun z => z))
            have tt53 : (wt_gf σ38 108 28).toInt = (wt_gf z19.2 108 28).toInt := congrArg Int32.toInt (fσ38.1 108 28 (fun z => z))
            refine hKK18 _ ⟨(wt_fr.tr (wt_fr.tr (wt_fr.tr wt_fr.rf l21 (fun i k h => h.elim) (fun i h => by (try dsimp only at h); rcases h with h | h; exact Or.inl (by first | exact h | omega); exact Or.inr (by first | exact h | omega))) fσ38 (fun i k h => h.elim) (fun i h => by (try dsimp only at h); exact Or.inl (by first | exact h | omega))) fσ41 (fun i k h => h.elim) (fun i h => by (try dsimp only at h); exact Or.inr (by first | exact h | omega))), (wt_nn (B := wt_gf z19.2 108 28) (by first | with_reducible assumption | omega) (by first | with_reducible assumption | omega)), rσ41⟩ ?_
            show ((wt_gf σ41 108 28).toInt - (z19.1 + (1 : Int32)).toInt + 0).toNat < ((wt_gf z19.2 108 28).toInt - z19.1.toInt + 0).toNat
            exact wt_mu (by first | with_reducible assumption | omega) (by first | with_reducible assumption | omega)
          · skip
            have c54 := wt_nceq h46
            refine wt_T_gd (wt_ix (by first | with_reducible assumption | omega) (by first | with_reducible assumption | omega)) ?_
            have g56 : 0 ≤ (wt_ga σ41 253 (Int32.toNatClampNeg x1)).toInt ∧ (wt_ga σ41 253 (Int32.toNatClampNeg x1)).toInt ≤ 12 := wt_Ra9 rσ41 253 (by decide) (by decide) (Int32.toNatClampNeg x1)
            have tt57 : (wt_ga σ41 253 (Int32.toNatClampNeg x1)).toInt = (wt_ga σ38 253 (Int32.toNatClampNeg x1)).toInt := congrArg Int32.toInt (fσ41.2 253 (by (try dsimp only); omega) (Int32.toNatClampNeg x1))
            have tt60 : (wt_ga σ38 253 (Int32.toNatClampNeg x1)).toInt = (wt_ga z19.2 253 (Int32.toNatClampNeg x1)).toInt := congrArg Int32.toInt (fσ38.2 253 (by (try dsimp only); omega) (Int32.toNatClampNeg x1))
            have tt63 : (wt_ga z19.2 253 (Int32.toNatClampNeg x1)).toInt = (wt_ga z3.2 253 (Int32.toNatClampNeg x1)).toInt := congrArg Int32.toInt (l21.2 253 (by (try dsimp only); omega) (Int32.toNatClampNeg x1))
            have tt66 : (wt_ga z3.2 253 (Int32.toNatClampNeg x1)).toInt = (wt_ga σ 253 (Int32.toNatClampNeg x1)).toInt := congrArg Int32.toInt (l5.2 253 (by (try dsimp only); omega) (Int32.toNatClampNeg x1))
            obtain ⟨j67, j67a, j67b⟩ := wt_subI (wt_ga σ41 253 (Int32.toNatClampNeg x1)) (1 : Int32)
            refine wt_T_if (fun h68 => ?_) (fun h68 => ?_)
            · skip
              have c69 := wt_ceq h68
              refine wt_T_gd (wt_ix (by first | with_reducible assumption | omega) (by first | with_reducible assumption | omega)) ?_
              refine wt_T_bi (wq_md_priceOf n hn z19.1 σ41 rσ41 (by first | with_reducible assumption | omega) (by first | with_reducible assumption | omega)) (fun r70 h71 => ?_)
              have e72 := h71
              have bb73 := wt_bd r70.1
              rw [e72]
              refine wt_T_gd (wt_ix (by first | with_reducible assumption | omega) (by first | with_reducible assumption | omega)) ?_
              refine wt_T_gd (wt_ix (by first | with_reducible assumption | omega) (by first | with_reducible assumption | omega)) ?_
              refine wt_T_gd (wt_ix (by first | with_reducible assumption | omega) (by first | with_reducible assumption | omega)) ?_
              obtain ⟨σ74, eσ74⟩ : ∃ z : wt_St, z = wt_sa σ41 (292 + (Int32.toNatClampNeg z3.1)) (Int32.toNatClampNeg z19.1) r70.1 := ⟨_, rfl⟩
              rw [← eσ74]
              have fσ74 := wt_fr_sa eσ74
              have vσ74 := wt_ceq (wt_v_sa eσ74)
              have rσ74 := wt_RI_no rσ41 eσ74 292 304 (by decide +kernel) (by first | with_reducible assumption | omega) (by first | with_reducible assumption | omega)
              obtain ⟨σ75, eσ75⟩ : ∃ z : wt_St, z = wt_sa σ74 (305 + (Int32.toNatClampNeg z3.1)) (Int32.toNatClampNeg z19.1) (1 : Int32) := ⟨_, rfl⟩
              rw [← eσ75]
              have fσ75 := wt_fr_sa eσ75
              have vσ75 := wt_ceq (wt_v_sa eσ75)
              have rσ75 := wt_RI_no rσ74 eσ75 305 317 (by decide +kernel) (by first | with_reducible assumption | omega) (by first | with_reducible assumption | omega)
              unfold wp_md_laysRests_B279
              have g77 : 0 ≤ (wt_gf σ75 108 28).toInt ∧ (wt_gf σ75 108 28).toInt ≤ 60 := wt_Rf6 rσ75
              have tt78 : (wt_gf σ75 108 28).toInt = (wt_gf σ74 108 28).toInt := congrArg Int32.toInt (fσ75.1 108 28 (fun z => z))
              have tt81 : (wt_gf σ74 108 28).toInt = (wt_gf σ41 108 28).toInt := congrArg Int32.toInt (fσ74.1 108 28 (fun z => z))
              have tt84 : (wt_gf σ41 108 28).toInt = (wt_gf σ38 108 28).toInt := congrArg Int32.toInt (fσ41.1 108 28 (fun z => z))
              have tt87 : (wt_gf σ38 108 28).toInt = (wt_gf z19.2 108 28).toInt := congrArg Int32.toInt (fσ38.1 108 28 (fun z => z))
              refine hKK18 _ ⟨(wt_fr.tr (wt_fr.tr (wt_fr.tr (wt_fr.tr (wt_fr.tr wt_fr.rf l21 (fun i k h => h.elim) (fun i h => by (try dsimp only at h); rcases h with h | h; exact Or.inl (by first | exact h | omega); exact Or.inr (by first | exact h | omega))) fσ38 (fun i k h => h.elim) (fun i h => by (try dsimp only at h); exact Or.inl (by first | exact h | omega))) fσ41 (fun i k h => h.elim) (fun i h => by (try dsimp only at h); exact Or.inr (by first | exact h | omega))) fσ74 (fun i k h => h.elim) (fun i h => by (try dsimp only at h); exact Or.inl (by first | exact h | omega))) fσ75 (fun i k h => h.elim) (fun i h => by (try dsimp only at h); exact Or.inr (by first | exact h | omega))), (wt_nn (B := wt_gf z19.2 108 28) (by first | with_reducible assumption | omega) (by first | with_reducible assumption | omega)), rσ75⟩ ?_
              show ((wt_gf σ75 108 28).toInt - (z19.1 + (1 : Int32)).toInt + 0).toNat < ((wt_gf z19.2 108 28).toInt - z19.1.toInt + 0).toNat
              exact wt_mu (by first | with_reducible assumption | omega) (by first | with_reducible assumption | omega)
            · skip
              have c88 := wt_nceq h68
              refine wt_T_it (fun s : Int32 × Int32 × wt_St => wt_fr (fun i k => False) (fun i => (305 ≤ i ∧ i < 317)) σ41 s.2.2 ∧ 0 ≤ (s.2.1).toInt ∧ wt_RI s.2.2) (fun s : Int32 × Int32 × wt_St => ((wt_gf s.2.2 108 28).toInt - s.2.1.toInt + 0).toNat) (fun KK89 z90 I91 hKK89 => ?_) _ _ ?_ ?_
              · skip
                obtain ⟨l92, l93, l94⟩ := I91
                unfold wp_md_laysRests_B97
                have g96 : 0 ≤ (wt_gf z90.2.2 108 28).toInt ∧ (wt_gf z90.2.2 108 28).toInt ≤ 60 := wt_Rf6 l94
                have tt97 : (wt_gf z90.2.2 108 28).toInt = (wt_gf σ41 108 28).toInt := congrArg Int32.toInt (l92.1 108 28 (fun z => z))
                have tt100 : (wt_gf σ41 108 28).toInt = (wt_gf σ38 108 28).toInt := congrArg Int32.toInt (fσ41.1 108 28 (fun z => z))
                have tt103 : (wt_gf σ38 108 28).toInt = (wt_gf z19.2 108 28).toInt := congrArg Int32.toInt (fσ38.1 108 28 (fun z => z))
                have bb104 := wt_bd z90.2.1
                refine wt_T_if (fun h105 => ?_) (fun h105 => ?_)
                · skip
                  have c106 := wt_cle h105
                  refine wt_T_gd (wt_ix (by first | with_reducible assumption | omega) (by first | with_reducible assumption | omega)) ?_
                  have bb107 := wt_bd z90.1
                  refine wt_T_if (fun h108 => ?_) (fun h108 => ?_)
                  · skip
                    have c109 := wt_ceq h108
                    rw [wt_lm1] at c109
                    unfold wp_md_laysRests_B278
                    refine wt_T_gd (wt_ix (by first | with_reducible assumption | omega) (by first | with_reducible assumption | omega)) ?_
                    obtain ⟨σ110, eσ110⟩ : ∃ z : wt_St, z = wt_sa z90.2.2 (292 + (Int32.toNatClampNeg z3.1)) (Int32.toNatClampNeg z19.1) (-1 : Int32) := ⟨_, rfl⟩
                    rw [← eσ110]
                    have fσ110 := wt_fr_sa eσ110
                    have vσ110 := wt_ceq (wt_v_sa eσ110)
                    have rσ110 := wt_RI_no l94 eσ110 292 304 (by decide +kernel) (by first | with_reducible assumption | omega) (by first | with_reducible assumption | omega)
                    unfold wp_md_laysRests_B279
                    have g112 : 0 ≤ (wt_gf σ110 108 28).toInt ∧ (wt_gf σ110 108 28).toInt ≤ 60 := wt_Rf6 rσ110
                    have tt113 : (wt_gf σ110 108 28).toInt = (wt_gf z90.2.2 108 28).toInt := congrArg Int32.toInt (fσ110.1 108 28 (fun z => z))
                    refine hKK18 _ ⟨(wt_fr.tr (wt_fr.tr (wt_fr.tr (wt_fr.tr (wt_fr.tr wt_fr.rf l21 (fun i k h => h.elim) (fun i h => by (try dsimp only at h); rcases h with h | h; exact Or.inl (by first | exact h | omega); exact Or.inr (by first | exact h | omega))) fσ38 (fun i k h => h.elim) (fun i h => by (try dsimp only at h); exact Or.inl (by first | exact h | omega))) fσ41 (fun i k h => h.elim) (fun i h => by (try dsimp only at h); exact Or.inr (by first | exact h | omega))) l92 (fun i k h => h.elim) (fun i h => by (try dsimp only at h); exact Or.inr (by first | exact h | omega))) fσ110 (fun i k h => h.elim) (fun i h => by (try dsimp only at h); exact Or.inl (by first | exact h | omega))), (wt_nn (B := wt_gf z19.2 108 28) (by first | with_reducible assumption | omega) (by first | with_reducible assumption | omega)), rσ110⟩ ?_
                    show ((wt_gf σ110 108 28).toInt - (z19.1 + (1 : Int32)).toInt + 0).toNat < ((wt_gf z19.2 108 28).toInt - z19.1.toInt + 0).toNat
                    exact wt_mu (by first | with_reducible assumption | omega) (by first | with_reducible assumption | omega)
                  · skip
                    have c114 := wt_nceq h108
                    rw [wt_lm1] at c114
                    refine wt_T_bi (wq_md_priceOf n hn z19.1 z90.2.2 l94 (by first | with_reducible assumption | omega) (by first | with_reducible assumption | omega)) (fun r115 h116 => ?_)
                    have e117 := h116
                    have bb118 := wt_bd r115.1
                    rw [e117]
                    unfold wp_md_laysRests_B278
                    refine wt_T_gd (wt_ix (by first | with_reducible assumption | omega) (by first | with_reducible assumption | omega)) ?_
                    obtain ⟨σ119, eσ119⟩ : ∃ z : wt_St, z = wt_sa z90.2.2 (292 + (Int32.toNatClampNeg z3.1)) (Int32.toNatClampNeg z19.1) (z90.1 + r115.1) := ⟨_, rfl⟩
                    rw [← eσ119]
                    have fσ119 := wt_fr_sa eσ119
                    have vσ119 := wt_ceq (wt_v_sa eσ119)
                    obtain ⟨j120, j120a, j120b⟩ := wt_addI z90.1 r115.1
                    have rσ119 := wt_RI_no l94 eσ119 292 304 (by decide +kernel) (by first | with_reducible assumption | omega) (by first | with_reducible assumption | omega)
                    unfold wp_md_laysRests_B279
                    have g122 : 0 ≤ (wt_gf σ119 108 28).toInt ∧ (wt_gf σ119 108 28).toInt ≤ 60 := wt_Rf6 rσ119
                    have tt123 : (wt_gf σ119 108 28).toInt = (wt_gf z90.2.2 108 28).toInt := congrArg Int32.toInt (fσ119.1 108 28 (fun z => z))
                    refine hKK18 _ ⟨(wt_fr.tr (wt_fr.tr (wt_fr.tr (wt_fr.tr (wt_fr.tr wt_fr.rf l21 (fun i k h => h.elim) (fun i h => by (try dsimp only at h); rcases h with h | h; exact Or.inl (by first | exact h | omega); exact Or.inr (by first | exact h | omega))) fσ38 (fun i k h => h.elim) (fun i h => by (try dsimp only at h); exact Or.inl (by first | exact h | omega))) fσ41 (fun i k h => h.elim) (fun i h => by (try dsimp only at h); exact Or.inr (by first | exact h | omega))) l92 (fun i k h => h.elim) (fun i h => by (try dsimp only at h); exact Or.inr (by first | exact h | omega))) fσ119 (fun i k h => h.elim) (fun i h => by (try dsimp only at h); exact Or.inl (by first | exact h | omega))), (wt_nn (B := wt_gf z19.2 108 28) (by first | with_reducible assumption | omega) (by first | with_reducible assumption | omega)), rσ119⟩ ?_
                    show ((wt_gf σ119 108 28).toInt - (z19.1 + (1 : Int32)).toInt + 0).toNat < ((wt_gf z19.2 108 28).toInt - z19.1.toInt + 0).toNat
                    exact wt_mu (by first | with_reducible assumption | omega) (by first | with_reducible assumption | omega)
                · skip
                  have c124 := wt_ncle h105
                  have j125 := wt_i1 (c := z3.1) (by first | with_reducible assumption | omega)
                  refine wt_T_bi (wq_md_isOf n hn z90.2.1 x1 (z3.1 + (1 : Int32)) z90.2.2 l94 (by first | with_reducible assumption | omega) (by first | with_reducible assumption | omega) (by first | with_reducible assumption | omega) (by first | with_reducible assumption | omega) (by first | with_reducible assumption | omega) (by first | with_reducible assumption | omega)) (fun r126 h127 => ?_)
                  have e128 := h127
                  have bb129 := wt_bd r126.1
                  rw [e128]
                  refine wt_T_if (fun h130 => ?_) (fun h130 => ?_)
                  · skip
                    have c131 := wt_ceq h130
                    unfold wp_md_laysRests_B247
                    have bb132 := wt_bd z90.1
                    refine hKK89 _ ⟨(wt_fr.tr wt_fr.rf l92 (fun i k h => h.elim) (fun i h => by (try dsimp only at h); exact (by first | exact h | omega))), (wt_nn (B := wt_gf z90.2.2 108 28) (by first | with_reducible assumption | omega) (by first | with_reducible assumption | omega)), l94⟩ ?_
                    show ((wt_gf z90.2.2 108 28).toInt - (z90.2.1 + (1 : Int32)).toInt + 0).toNat < ((wt_gf z90.2.2 108 28).toInt - z90.2.1.toInt + 0).toNat
                    exact wt_mu (by first | with_reducible assumption | omega) (by first | with_reducible assumption | omega)
                  · skip
                    have c133 := wt_nceq h130
                    refine wt_T_bi (wq_md_mayFollow n hn z19.1 z90.2.1 z90.2.2 l94 (by first | with_reducible assumption | omega) (by first | with_reducible assumption | omega) (by first | with_reducible assumption | omega) (by first | with_reducible assumption | omega)) (fun r134 h135 => ?_)
                    have e136 := h135
                    have bb137 := wt_bd r134.1
                    rw [e136]
                    refine wt_T_if (fun h138 => ?_) (fun h138 => ?_)
                    · skip
                      have c139 := wt_ceq h138
                      unfold wp_md_laysRests_B247
                      have bb140 := wt_bd z90.1
                      refine hKK89 _ ⟨(wt_fr.tr wt_fr.rf l92 (fun i k h => h.elim) (fun i h => by (try dsimp only at h); exact (by first | exact h | omega))), (wt_nn (B := wt_gf z90.2.2 108 28) (by first | with_reducible assumption | omega) (by first | with_reducible assumption | omega)), l94⟩ ?_
                      show ((wt_gf z90.2.2 108 28).toInt - (z90.2.1 + (1 : Int32)).toInt + 0).toNat < ((wt_gf z90.2.2 108 28).toInt - z90.2.1.toInt + 0).toNat
                      exact wt_mu (by first | with_reducible assumption | omega) (by first | with_reducible assumption | omega)
                    · skip
                      have c141 := wt_nceq h138
                      refine wt_T_gd (wt_ix (by first | with_reducible assumption | omega) (by first | with_reducible assumption | omega)) ?_
                      refine wt_T_gd (wt_ix (by first | with_reducible assumption | omega) (by first | with_reducible assumption | omega)) ?_
                      have bb142 := wt_tn (z3.1 + (1 : Int32))
                      have bb143 := wt_tn z90.2.1
                      have bb144 := wt_bd (wt_ga z90.2.2 (292 + (Int32.toNatClampNeg (z3.1 + (1 : Int32)))) (Int32.toNatClampNeg z90.2.1))
                      have tt145 : (wt_ga z90.2.2 (292 + (Int32.toNatClampNeg (z3.1 + (1 : Int32)))) (Int32.toNatClampNeg z90.2.1)).toInt = (wt_ga σ41 (292 + (Int32.toNatClampNeg (z3.1 + (1 : Int32)))) (Int32.toNatClampNeg z90.2.1)).toInt := congrArg Int32.toInt (l92.2 (292 + (Int32.toNatClampNeg (z3.1 + (1 : Int32)))) (by (try dsimp only); omega) (Int32.toNatClampNeg z90.2.1))
                      have bb146 := wt_bd (wt_ga σ41 (292 + (Int32.toNatClampNeg (z3.1 + (1 : Int32)))) (Int32.toNatClampNeg z90.2.1))
                      have tt147 : (wt_ga σ41 (292 + (Int32.toNatClampNeg (z3.1 + (1 : Int32)))) (Int32.toNatClampNeg z90.2.1)).toInt = (wt_ga σ38 (292 + (Int32.toNatClampNeg (z3.1 + (1 : Int32)))) (Int32.toNatClampNeg z90.2.1)).toInt := congrArg Int32.toInt (fσ41.2 (292 + (Int32.toNatClampNeg (z3.1 + (1 : Int32)))) (by (try dsimp only); omega) (Int32.toNatClampNeg z90.2.1))
                      have bb148 := wt_bd (wt_ga σ38 (292 + (Int32.toNatClampNeg (z3.1 + (1 : Int32)))) (Int32.toNatClampNeg z90.2.1))
                      refine wt_T_if (fun h149 => ?_) (fun h149 => ?_)
                      · skip
                        have c150 := wt_ceq h149
                        rw [wt_lm1] at c150
                        unfold wp_md_laysRests_B247
                        have bb151 := wt_bd z90.1
                        refine hKK89 _ ⟨(wt_fr.tr wt_fr.rf l92 (fun i k h => h.elim) (fun i h => by (try dsimp only at h); exact (by first | exact h | omega))), (wt_nn (B := wt_gf z90.2.2 108 28) (by first | with_reducible assumption | omega) (by first | with_reducible assumption | omega)), l94⟩ ?_
                        show ((wt_gf z90.2.2 108 28).toInt - (z90.2.1 + (1 : Int32)).toInt + 0).toNat < ((wt_gf z90.2.2 108 28).toInt - z90.2.1.toInt + 0).toNat
                        exact wt_mu (by first | with_reducible assumption | omega) (by first | with_reducible assumption | omega)
                      · skip
                        have c152 := wt_nceq h149
                        rw [wt_lm1] at c152
                        have bb153 := wt_bd z90.1
                        refine wt_T_if (fun h154 => ?_) (fun h154 => ?_)
                        · skip
                          have c155 := wt_ceq h154
                          rw [wt_lm1] at c155
                          unfold wp_md_laysRests_B169
                          refine wt_T_gd (wt_ix (by first | with_reducible assumption | omega) (by first | with_reducible assumption | omega)) ?_
                          refine wt_T_gd (wt_ix (by first | with_reducible assumption | omega) (by first | with_reducible assumption | omega)) ?_
                          unfold wp_md_laysRests_B185
                          refine wt_T_gd (wt_ix (by first | with_reducible assumption | omega) (by first | with_reducible assumption | omega)) ?_
                          refine wt_T_gd (wt_ix (by first | with_reducible assumption | omega) (by first | with_reducible assumption | omega)) ?_
                          refine wt_T_gd (wt_ix (by first | with_reducible assumption | omega) (by first | with_reducible assumption | omega)) ?_
                          refine wt_T_gd (wt_ix (by first | with_reducible assumption | omega) (by first | with_reducible assumption | omega)) ?_
                          refine wt_T_gd (wt_ix (by first | with_reducible assumption | omega) (by first | with_reducible assumption | omega)) ?_
                          have bb156 := wt_bd (wt_ga z90.2.2 (305 + (Int32.toNatClampNeg z3.1)) (Int32.toNatClampNeg z19.1))
                          have bb157 := wt_bd (wt_ga z90.2.2 (305 + (Int32.toNatClampNeg (z3.1 + (1 : Int32)))) (Int32.toNatClampNeg z90.2.1))
                          obtain ⟨j158, j158a, j158b⟩ := wt_addI (wt_ga z90.2.2 (305 + (Int32.toNatClampNeg z3.1)) (Int32.toNatClampNeg z19.1)) (wt_ga z90.2.2 (305 + (Int32.toNatClampNeg (z3.1 + (1 : Int32)))) (Int32.toNatClampNeg z90.2.1))
                          have k159 : (1000000 : Int32).toInt = 1000000 := by decide
                          refine wt_T_if (fun h160 => ?_) (fun h160 => ?_)
                          · skip
                            have c161 := wt_cle h160
                            refine wt_T_gd (wt_ix (by first | with_reducible assumption | omega) (by first | with_reducible assumption | omega)) ?_
                            refine wt_T_gd (wt_ix (by first | with_reducible assumption | omega) (by first | with_reducible assumption | omega)) ?_
                            refine wt_T_gd (wt_ix (by first | with_reducible assumption | omega) (by first | with_reducible assumption | omega)) ?_
                            refine wt_T_gd (wt_ix (by first | with_reducible assumption | omega) (by first | with_reducible assumption | omega)) ?_
                            unfold wp_md_laysRests_B246
                            refine wt_T_gd (wt_ix (by first | with_reducible assumption | omega) (by first | with_reducible assumption | omega)) ?_
                            obtain ⟨σ162, eσ162⟩ : ∃ z : wt_St, z = wt_sa z90.2.2 (305 + (Int32.toNatClampNeg z3.1)) (Int32.toNatClampNeg z19.1) ((wt_ga z90.2.2 (305 + (Int32.toNatClampNeg z3.1)) (Int32.toNatClampNeg z19.1)) + (wt_ga z90.2.2 (305 + (Int32.toNatClampNeg (z3.1 + (1 : Int32)))) (Int32.toNatClampNeg z90.2.1))) := ⟨_, rfl⟩
                            rw [← eσ162]
                            have fσ162 := wt_fr_sa eσ162
                            have vσ162 := wt_ceq (wt_v_sa eσ162)
                            have rσ162 := wt_RI_no l94 eσ162 305 317 (by decide +kernel) (by first | with_reducible assumption | omega) (by first | with_reducible assumption | omega)
                            unfold wp_md_laysRests_B247
                            have g164 : 0 ≤ (wt_gf σ162 108 28).toInt ∧ (wt_gf σ162 108 28).toInt ≤ 60 := wt_Rf6 rσ162
                            have tt165 : (wt_gf σ162 108 28).toInt = (wt_gf z90.2.2 108 28).toInt := congrArg Int32.toInt (fσ162.1 108 28 (fun z => z))
                            refine hKK89 _ ⟨(wt_fr.tr (wt_fr.tr wt_fr.rf l92 (fun i k h => h.elim) (fun i h => by (try dsimp only at h); exact (by first | exact h | omega))) fσ162 (fun i k h => h.elim) (fun i h => by (try dsimp only at h); exact (by first | exact h | omega))), (wt_nn (B := wt_gf z90.2.2 108 28) (by first | with_reducible assumption | omega) (by first | with_reducible assumption | omega)), rσ162⟩ ?_
                            show ((wt_gf σ162 108 28).toInt - (z90.2.1 + (1 : Int32)).toInt + 0).toNat < ((wt_gf z90.2.2 108 28).toInt - z90.2.1.toInt + 0).toNat
                            exact wt_mu (by first | with_reducible assumption | omega) (by first | with_reducible assumption | omega)
                          · skip
                            have c166 := wt_ncle h160
                            unfold wp_md_laysRests_B246
                            refine wt_T_gd (wt_ix (by first | with_reducible assumption | omega) (by first | with_reducible assumption | omega)) ?_
                            obtain ⟨σ167, eσ167⟩ : ∃ z : wt_St, z = wt_sa z90.2.2 (305 + (Int32.toNatClampNeg z3.1)) (Int32.toNatClampNeg z19.1) (1000000 : Int32) := ⟨_, rfl⟩
                            rw [← eσ167]
                            have fσ167 := wt_fr_sa eσ167
                            have vσ167 := wt_ceq (wt_v_sa eσ167)
                            have rσ167 := wt_RI_no l94 eσ167 305 317 (by decide +kernel) (by first | with_reducible assumption | omega) (by first | with_reducible assumption | omega)
                            unfold wp_md_laysRests_B247
                            have g169 : 0 ≤ (wt_gf σ167 108 28).toInt ∧ (wt_gf σ167 108 28).toInt ≤ 60 := wt_Rf6 rσ167
                            have tt170 : (wt_gf σ167 108 28).toInt = (wt_gf z90.2.2 108 28).toInt := congrArg Int32.toInt (fσ167.1 108 28 (fun z => z))
                            refine hKK89 _ ⟨(wt_fr.tr (wt_fr.tr wt_fr.rf l92 (fun i k h => h.elim) (fun i h => by (try dsimp only at h); exact (by first | exact h | omega))) fσ167 (fun i k h => h.elim) (fun i h => by (try dsimp only at h); exact (by first | exact h | omega))), (wt_nn (B := wt_gf z90.2.2 108 28) (by first | with_reducible assumption | omega) (by first | with_reducible assumption | omega)), rσ167⟩ ?_
                            show ((wt_gf σ167 108 28).toInt - (z90.2.1 + (1 : Int32)).toInt + 0).toNat < ((wt_gf z90.2.2 108 28).toInt - z90.2.1.toInt + 0).toNat
                            exact wt_mu (by first | with_reducible assumption | omega) (by first | with_reducible assumption | omega)
                        · skip
                          have c171 := wt_nceq h154
                          rw [wt_lm1] at c171
                          refine wt_T_gd (wt_ix (by first | with_reducible assumption | omega) (by first | with_reducible assumption | omega)) ?_
                          refine wt_T_gd (wt_ix (by first | with_reducible assumption | omega) (by first | with_reducible assumption | omega)) ?_
                          refine wt_T_if (fun h172 => ?_) (fun h172 => ?_)
                          · skip
                            have c173 := wt_cle h172
                            unfold wp_md_laysRests_B185
                            refine wt_T_gd (wt_ix (by first | with_reducible assumption | omega) (by first | with_reducible assumption | omega)) ?_
                            refine wt_T_gd (wt_ix (by first | with_reducible assumption | omega) (by first | with_reducible assumption | omega)) ?_
                            refine wt_T_gd (wt_ix (by first | with_reducible assumption | omega) (by first | with_reducible assumption | omega)) ?_
                            refine wt_T_gd (wt_ix (by first | with_reducible assumption | omega) (by first | with_reducible assumption | omega)) ?_
                            refine wt_T_gd (wt_ix (by first | with_reducible assumption | omega) (by first | with_reducible assumption | omega)) ?_
                            have bb174 := wt_bd (wt_ga z90.2.2 (305 + (Int32.toNatClampNeg z3.1)) (Int32.toNatClampNeg z19.1))
                            have bb175 := wt_bd (wt_ga z90.2.2 (305 + (Int32.toNatClampNeg (z3.1 + (1 : Int32)))) (Int32.toNatClampNeg z90.2.1))
                            obtain ⟨j176, j176a, j176b⟩ := wt_addI (wt_ga z90.2.2 (305 + (Int32.toNatClampNeg z3.1)) (Int32.toNatClampNeg z19.1)) (wt_ga z90.2.2 (305 + (Int32.toNatClampNeg (z3.1 + (1 : Int32)))) (Int32.toNatClampNeg z90.2.1))
                            have k177 : (1000000 : Int32).toInt = 1000000 := by decide
                            refine wt_T_if (fun h178 => ?_) (fun h178 => ?_)
                            · skip
                              have c179 := wt_cle h178
                              refine wt_T_gd (wt_ix (by first | with_reducible assumption | omega) (by first | with_reducible assumption | omega)) ?_
                              refine wt_T_gd (wt_ix (by first | with_reducible assumption | omega) (by first | with_reducible assumption | omega)) ?_
                              refine wt_T_gd (wt_ix (by first | with_reducible assumption | omega) (by first | with_reducible assumption | omega)) ?_
                              refine wt_T_gd (wt_ix (by first | with_reducible assumption | omega) (by first | with_reducible assumption | omega)) ?_
                              unfold wp_md_laysRests_B246
                              refine wt_T_gd (wt_ix (by first | with_reducible assumption | omega) (by first | with_reducible assumption | omega)) ?_
                              obtain ⟨σ180, eσ180⟩ : ∃ z : wt_St, z = wt_sa z90.2.2 (305 + (Int32.toNatClampNeg z3.1)) (Int32.toNatClampNeg z19.1) ((wt_ga z90.2.2 (305 + (Int32.toNatClampNeg z3.1)) (Int32.toNatClampNeg z19.1)) + (wt_ga z90.2.2 (305 + (Int32.toNatClampNeg (z3.1 + (1 : Int32)))) (Int32.toNatClampNeg z90.2.1))) := ⟨_, rfl⟩
                              rw [← eσ180]
                              have fσ180 := wt_fr_sa eσ180
                              have vσ180 := wt_ceq (wt_v_sa eσ180)
                              have rσ180 := wt_RI_no l94 eσ180 305 317 (by decide +kernel) (by first | with_reducible assumption | omega) (by first | with_reducible assumption | omega)
                              unfold wp_md_laysRests_B247
                              have g182 : 0 ≤ (wt_gf σ180 108 28).toInt ∧ (wt_gf σ180 108 28).toInt ≤ 60 := wt_Rf6 rσ180
                              have tt183 : (wt_gf σ180 108 28).toInt = (wt_gf z90.2.2 108 28).toInt := congrArg Int32.toInt (fσ180.1 108 28 (fun z => z))
                              refine hKK89 _ ⟨(wt_fr.tr (wt_fr.tr wt_fr.rf l92 (fun i k h => h.elim) (fun i h => by (try dsimp only at h); exact (by first | exact h | omega))) fσ180 (fun i k h => h.elim) (fun i h => by (try dsimp only at h); exact (by first | exact h | omega))), (wt_nn (B := wt_gf z90.2.2 108 28) (by first | with_reducible assumption | omega) (by first | with_reducible assumption | omega)), rσ180⟩ ?_
                              show ((wt_gf σ180 108 28).toInt - (z90.2.1 + (1 : Int32)).toInt + 0).toNat < ((wt_gf z90.2.2 108 28).toInt - z90.2.1.toInt + 0).toNat
                              exact wt_mu (by first | with_reducible assumption | omega) (by first | with_reducible assumption | omega)
                            · skip
                              have c184 := wt_ncle h178
                              unfold wp_md_laysRests_B246
                              refine wt_T_gd (wt_ix (by first | with_reducible assumption | omega) (by first | with_reducible assumption | omega)) ?_
                              obtain ⟨σ185, eσ185⟩ : ∃ z : wt_St, z = wt_sa z90.2.2 (305 + (Int32.toNatClampNeg z3.1)) (Int32.toNatClampNeg z19.1) (1000000 : Int32) := ⟨_, rfl⟩
                              rw [← eσ185]
                              have fσ185 := wt_fr_sa eσ185
                              have vσ185 := wt_ceq (wt_v_sa eσ185)
                              have rσ185 := wt_RI_no l94 eσ185 305 317 (by decide +kernel) (by first | with_reducible assumption | omega) (by first | with_reducible assumption | omega)
                              unfold wp_md_laysRests_B247
                              have g187 : 0 ≤ (wt_gf σ185 108 28).toInt ∧ (wt_gf σ185 108 28).toInt ≤ 60 := wt_Rf6 rσ185
                              have tt188 : (wt_gf σ185 108 28).toInt = (wt_gf z90.2.2 108 28).toInt := congrArg Int32.toInt (fσ185.1 108 28 (fun z => z))
                              refine hKK89 _ ⟨(wt_fr.tr (wt_fr.tr wt_fr.rf l92 (fun i k h => h.elim) (fun i h => by (try dsimp only at h); exact (by first | exact h | omega))) fσ185 (fun i k h => h.elim) (fun i h => by (try dsimp only at h); exact (by first | exact h | omega))), (wt_nn (B := wt_gf z90.2.2 108 28) (by first | with_reducible assumption | omega) (by first | with_reducible assumption | omega)), rσ185⟩ ?_
                              show ((wt_gf σ185 108 28).toInt - (z90.2.1 + (1 : Int32)).toInt + 0).toNat < ((wt_gf z90.2.2 108 28).toInt - z90.2.1.toInt + 0).toNat
                              exact wt_mu (by first | with_reducible assumption | omega) (by first | with_reducible assumption | omega)
                          · skip
                            have c189 := wt_ncle h172
                            unfold wp_md_laysRests_B169
                            refine wt_T_gd (wt_ix (by first | with_reducible assumption | omega) (by first | with_reducible assumption | omega)) ?_
                            refine wt_T_gd (wt_ix (by first | with_reducible assumption | omega) (by first | with_reducible assumption | omega)) ?_
                            unfold wp_md_laysRests_B185
                            refine wt_T_gd (wt_ix (by first | with_reducible assumption | omega) (by first | with_reducible assumption | omega)) ?_
                            refine wt_T_gd (wt_ix (by first | with_reducible assumption | omega) (by first | with_reducible assumption | omega)) ?_
                            refine wt_T_gd (wt_ix (by first | with_reducible assumption | omega) (by first | with_reducible assumption | omega)) ?_
                            refine wt_T_gd (wt_ix (by first | with_reducible assumption | omega) (by first | with_reducible assumption | omega)) ?_
                            refine wt_T_gd (wt_ix (by first | with_reducible assumption | omega) (by first | with_reducible assumption | omega)) ?_
                            have bb190 := wt_bd (wt_ga z90.2.2 (305 + (Int32.toNatClampNeg z3.1)) (Int32.toNatClampNeg z19.1))
                            have bb191 := wt_bd (wt_ga z90.2.2 (305 + (Int32.toNatClampNeg (z3.1 + (1 : Int32)))) (Int32.toNatClampNeg z90.2.1))
                            obtain ⟨j192, j192a, j192b⟩ := wt_addI (wt_ga z90.2.2 (305 + (Int32.toNatClampNeg z3.1)) (Int32.toNatClampNeg z19.1)) (wt_ga z90.2.2 (305 + (Int32.toNatClampNeg (z3.1 + (1 : Int32)))) (Int32.toNatClampNeg z90.2.1))
                            have k193 : (1000000 : Int32).toInt = 1000000 := by decide
                            refine wt_T_if (fun h194 => ?_) (fun h194 => ?_)
                            · skip
                              have c195 := wt_cle h194
                              refine wt_T_gd (wt_ix (by first | with_reducible assumption | omega) (by first | with_reducible assumption | omega)) ?_
                              refine wt_T_gd (wt_ix (by first | with_reducible assumption | omega) (by first | with_reducible assumption | omega)) ?_
                              refine wt_T_gd (wt_ix (by first | with_reducible assumption | omega) (by first | with_reducible assumption | omega)) ?_
                              refine wt_T_gd (wt_ix (by first | with_reducible assumption | omega) (by first | with_reducible assumption | omega)) ?_
                              unfold wp_md_laysRests_B246
                              refine wt_T_gd (wt_ix (by first | with_reducible assumption | omega) (by first | with_reducible assumption | omega)) ?_
                              obtain ⟨σ196, eσ196⟩ : ∃ z : wt_St, z = wt_sa z90.2.2 (305 + (Int32.toNatClampNeg z3.1)) (Int32.toNatClampNeg z19.1) ((wt_ga z90.2.2 (305 + (Int32.toNatClampNeg z3.1)) (Int32.toNatClampNeg z19.1)) + (wt_ga z90.2.2 (305 + (Int32.toNatClampNeg (z3.1 + (1 : Int32)))) (Int32.toNatClampNeg z90.2.1))) := ⟨_, rfl⟩
                              rw [← eσ196]
                              have fσ196 := wt_fr_sa eσ196
                              have vσ196 := wt_ceq (wt_v_sa eσ196)
                              have rσ196 := wt_RI_no l94 eσ196 305 317 (by decide +kernel) (by first | with_reducible assumption | omega) (by first | with_reducible assumption | omega)
                              unfold wp_md_laysRests_B247
                              have g198 : 0 ≤ (wt_gf σ196 108 28).toInt ∧ (wt_gf σ196 108 28).toInt ≤ 60 := wt_Rf6 rσ196
                              have tt199 : (wt_gf σ196 108 28).toInt = (wt_gf z90.2.2 108 28).toInt := congrArg Int32.toInt (fσ196.1 108 28 (fun z => z))
                              refine hKK89 _ ⟨(wt_fr.tr (wt_fr.tr wt_fr.rf l92 (fun i k h => h.elim) (fun i h => by (try dsimp only at h); exact (by first | exact h | omega))) fσ196 (fun i k h => h.elim) (fun i h => by (try dsimp only at h); exact (by first | exact h | omega))), (wt_nn (B := wt_gf z90.2.2 108 28) (by first | with_reducible assumption | omega) (by first | with_reducible assumption | omega)), rσ196⟩ ?_
                              show ((wt_gf σ196 108 28).toInt - (z90.2.1 + (1 : Int32)).toInt + 0).toNat < ((wt_gf z90.2.2 108 28).toInt - z90.2.1.toInt + 0).toNat
                              exact wt_mu (by first | with_reducible assumption | omega) (by first | with_reducible assumption | omega)
                            · skip
                              have c200 := wt_ncle h194
                              unfold wp_md_laysRests_B246
                              refine wt_T_gd (wt_ix (by first | with_reducible assumption | omega) (by first | with_reducible assumption | omega)) ?_
                              obtain ⟨σ201, eσ201⟩ : ∃ z : wt_St, z = wt_sa z90.2.2 (305 + (Int32.toNatClampNeg z3.1)) (Int32.toNatClampNeg z19.1) (1000000 : Int32) := ⟨_, rfl⟩
                              rw [← eσ201]
                              have fσ201 := wt_fr_sa eσ201
                              have vσ201 := wt_ceq (wt_v_sa eσ201)
                              have rσ201 := wt_RI_no l94 eσ201 305 317 (by decide +kernel) (by first | with_reducible assumption | omega) (by first | with_reducible assumption | omega)
                              unfold wp_md_laysRests_B247
                              have g203 : 0 ≤ (wt_gf σ201 108 28).toInt ∧ (wt_gf σ201 108 28).toInt ≤ 60 := wt_Rf6 rσ201
                              have tt204 : (wt_gf σ201 108 28).toInt = (wt_gf z90.2.2 108 28).toInt := congrArg Int32.toInt (fσ201.1 108 28 (fun z => z))
                              refine hKK89 _ ⟨(wt_fr.tr (wt_fr.tr wt_fr.rf l92 (fun i k h => h.elim) (fun i h => by (try dsimp only at h); exact (by first | exact h | omega))) fσ201 (fun i k h => h.elim) (fun i h => by (try dsimp only at h); exact (by first | exact h | omega))), (wt_nn (B := wt_gf z90.2.2 108 28) (by first | with_reducible assumption | omega) (by first | with_reducible assumption | omega)), rσ201⟩ ?_
                              show ((wt_gf σ201 108 28).toInt - (z90.2.1 + (1 : Int32)).toInt + 0).toNat < ((wt_gf z90.2.2 108 28).toInt - z90.2.1.toInt + 0).toNat
                              exact wt_mu (by first | with_reducible assumption | omega) (by first | with_reducible assumption | omega)
              · skip
                have g206 : 0 ≤ (wt_gf σ41 108 28).toInt ∧ (wt_gf σ41 108 28).toInt ≤ 60 := wt_Rf6 rσ41
                have tt207 : (wt_gf σ41 108 28).toInt = (wt_gf σ38 108 28).toInt := congrArg Int32.toInt (fσ41.1 108 28 (fun z => z))
                have tt210 : (wt_gf σ38 108 28).toInt = (wt_gf z19.2 108 28).toInt := congrArg Int32.toInt (fσ38.1 108 28 (fun z => z))
                exact ⟨wt_fr.rf, (show 0 ≤ ((0 : Int32)).toInt by omega), rσ41⟩
              · skip
                have g212 : 0 ≤ (wt_gf σ41 108 28).toInt ∧ (wt_gf σ41 108 28).toInt ≤ 60 := wt_Rf6 rσ41
                have tt213 : (wt_gf σ41 108 28).toInt = (wt_gf σ38 108 28).toInt := congrArg Int32.toInt (fσ41.1 108 28 (fun z => z))
                have tt216 : (wt_gf σ38 108 28).toInt = (wt_gf z19.2 108 28).toInt := congrArg Int32.toInt (fσ38.1 108 28 (fun z => z))
                show ((wt_gf σ41 108 28).toInt - (0 : Int32).toInt + 0).toNat < n
                omega
      · skip
        have g218 : 0 ≤ (wt_gf z3.2 108 28).toInt ∧ (wt_gf z3.2 108 28).toInt ≤ 60 := wt_Rf6 l8
        have tt219 : (wt_gf z3.2 108 28).toInt = (wt_gf σ 108 28).toInt := congrArg Int32.toInt (l5.1 108 28 (fun z => z))
        exact ⟨wt_fr.rf, (show 0 ≤ ((0 : Int32)).toInt by omega), l8⟩
      · skip
        have g223 : 0 ≤ (wt_gf z3.2 108 28).toInt ∧ (wt_gf z3.2 108 28).toInt ≤ 60 := wt_Rf6 l8
        have tt224 : (wt_gf z3.2 108 28).toInt = (wt_gf σ 108 28).toInt := congrArg Int32.toInt (l5.1 108 28 (fun z => z))
        show ((wt_gf z3.2 108 28).toInt - (0 : Int32).toInt + 0).toNat < n
        omega
  · skip
    exact ⟨wt_fr.rf, (show ((wt_ga σ 253 (Int32.toNatClampNeg x1)) - (1 : Int32)).toInt < (wt_ga σ 253 (Int32.toNatClampNeg x1)).toInt by omega), (show -1 ≤ ((wt_ga σ 253 (Int32.toNatClampNeg x1)) - (1 : Int32)).toInt by omega), r0⟩
  · skip
    show (((wt_ga σ 253 (Int32.toNatClampNeg x1)) - (1 : Int32)).toInt + 1).toNat < n
    omega
set_option maxRecDepth 100000 in
set_option maxHeartbeats 4000000 in
theorem wq_md_least_B41 (n : Nat) (hn : 4294967297 < n) (x1 : Int32) (x2 : Int32) (x3 : Int32) (y1 : Int32) (σ : wt_St) (r0 : wt_RI σ) (p0 : y1.toInt ≠ 0 ∨ (0 ≤ x1.toInt ∧ x1.toInt < (wt_gf σ 108 39).toInt)) : wt_T (wp_md_least_B41 n x1 x2 x3 y1 σ) (fun q => wt_fr (fun i k => (i = 108 ∧ k = 0)) (fun i => (292 ≤ i ∧ i < 304) ∨ (305 ≤ i ∧ i < 317) ∨ i = 317) σ q.2 ∧ wt_RI q.2) := by
  have bb1 := wt_bd x1
  have bb2 := wt_bd x2
  have bb3 := wt_bd x3
  have bb4 := wt_bd y1
  have g6 : 0 ≤ (wt_gf σ 108 39).toInt ∧ (wt_gf σ 108 39).toInt ≤ 8 := wt_Rf7 r0
  unfold wp_md_least_B41
  have k7 : (2 : Int32).toInt = 2 := by decide
  refine wt_T_bi (wq_md_bad n hn y1 (2 : Int32) σ r0 (by first | with_reducible assumption | omega)) (fun r8 h9 => ?_)
  obtain ⟨f10, ri11, pp12⟩ := h9
  have bb13 := wt_bd r8.1
  have bb14 := wt_bd (wt_gf r8.2 108 0)
  have bb15 := wt_bd (wt_gf σ 108 0)
  have k16 : (0 : Int32).toInt = 0 := by decide
  refine wt_T_if (fun h17 => ?_) (fun h17 => ?_)
  · skip
    have c18 := wt_ceq h17
    refine wt_T_bi (wq_md_laysRests n hn x1 r8.2 ri11 (by first | with_reducible assumption | omega) (by first | with_reducible assumption | omega)) (fun r19 h20 => ?_)
    obtain ⟨f21, ri22⟩ := h20
    refine wt_T_it (fun s : Int32 × Int32 × Int32 × wt_St => wt_fr (fun i k => False) (fun i => i = 317) r19 s.2.2.2 ∧ 0 ≤ (s.2.2.1).toInt ∧ (s.2.1.toInt = -1 ∨ (0 ≤ s.2.1.toInt ∧ s.2.1.toInt ≤ 59)) ∧ wt_RI s.2.2.2) (fun s : Int32 × Int32 × Int32 × wt_St => ((wt_ga s.2.2.2 253 (Int32.toNatClampNeg x1)).toInt - s.2.2.1.toInt + 0).toNat) (fun KK23 z24 I25 hKK23 => ?_) _ _ ?_ ?_
    · skip
      obtain ⟨l26, l27, l28, l29⟩ := I25
      unfold wp_md_least_B64
      have bb30 := wt_tn x1
      have g32 : 0 ≤ (wt_ga z24.2.2.2 253 (Int32.toNatClampNeg x1)).toInt ∧ (wt_ga z24.2.2.2 253 (Int32.toNatClampNeg x1)).toInt ≤ 12 := wt_Ra9 l29 253 (by decide) (by decide) (Int32.toNatClampNeg x1)
      have tt33 : (wt_ga z24.2.2.2 253 (Int32.toNatClampNeg x1)).toInt = (wt_ga r19 253 (Int32.toNatClampNeg x1)).toInt := congrArg Int32.toInt (l26.2 253 (by (try dsimp only); omega) (Int32.toNatClampNeg x1))
      have tt36 : (wt_ga r19 253 (Int32.toNatClampNeg x1)).toInt = (wt_ga r8.2 253 (Int32.toNatClampNeg x1)).toInt := congrArg Int32.toInt (f21.2 253 (by (try dsimp only); omega) (Int32.toNatClampNeg x1))
      have tt39 : (wt_ga r8.2 253 (Int32.toNatClampNeg x1)).toInt = (wt_ga σ 253 (Int32.toNatClampNeg x1)).toInt := congrArg Int32.toInt (f10.2 253 (fun z => z) (Int32.toNatClampNeg x1))
      have bb42 := wt_bd z24.2.2.1
      refine wt_T_gd (wt_ix (by first | with_reducible assumption | omega) (by first | with_reducible assumption | omega)) ?_
      refine wt_T_if (fun h43 => ?_) (fun h43 => ?_)
      · skip
        have c44 := wt_cle h43
        refine wt_T_if (fun h45 => ?_) (fun h45 => ?_)
        · skip
          have c46 := wt_ceq h45
          refine wt_T_some ?_
          exact ⟨(wt_fr.tr (wt_fr.tr (wt_fr.tr wt_fr.rf f10 (fun i k h => by (try dsimp only at h); exact (by first | exact h | omega)) (fun i h => h.elim)) f21 (fun i k h => h.elim) (fun i h => by (try dsimp only at h); rcases h with h | h; exact Or.inl (by first | exact h | omega); exact Or.inr (Or.inl (by first | exact h | omega)))) l26 (fun i k h => h.elim) (fun i h => by (try dsimp only at h); exact Or.inr (Or.inr (by first | exact h | omega)))), l29⟩
        · skip
          have c47 := wt_nceq h45
          refine wt_T_gd (wt_ix (by first | with_reducible assumption | omega) (by first | with_reducible assumption | omega)) ?_
          have k48 : (1 : Int32).toInt = 1 := by decide
          obtain ⟨j49, j49a, j49b⟩ := wt_subI (wt_ga z24.2.2.2 253 (Int32.toNatClampNeg x1)) (1 : Int32)
          refine wt_T_bi (wq_md_in n hn x2 (0 : Int32) ((wt_ga z24.2.2.2 253 (Int32.toNatClampNeg x1)) - (1 : Int32)) z24.2.2.2 l29) (fun r50 h51 => ?_)
          obtain ⟨e52, pp53⟩ := h51
          have bb54 := wt_bd r50.1
          rw [e52]
          refine wt_T_if (fun h55 => ?_) (fun h55 => ?_)
          · skip
            have c56 := wt_ceq h55
            refine wt_T_some ?_
            exact ⟨(wt_fr.tr (wt_fr.tr (wt_fr.tr wt_fr.rf f10 (fun i k h => by (try dsimp only at h); exact (by first | exact h | omega)) (fun i h => h.elim)) f21 (fun i k h => h.elim) (fun i h => by (try dsimp only at h); rcases h with h | h; exact Or.inl (by first | exact h | omega); exact Or.inr (Or.inl (by first | exact h | omega)))) l26 (fun i k h => h.elim) (fun i h => by (try dsimp only at h); exact Or.inr (Or.inr (by first | exact h | omega)))), l29⟩
          · skip
            have c57 := wt_nceq h55
            refine wt_T_gd (wt_ix (by first | with_reducible assumption | omega) (by first | with_reducible assumption | omega)) ?_
            refine wt_T_some ?_
            exact ⟨(wt_fr.tr (wt_fr.tr (wt_fr.tr wt_fr.rf f10 (fun i k h => by (try dsimp only at h); exact (by first | exact h | omega)) (fun i h => h.elim)) f21 (fun i k h => h.elim) (fun i h => by (try dsimp only at h); rcases h with h | h; exact Or.inl (by first | exact h | omega); exact Or.inr (Or.inl (by first | exact h | omega)))) l26 (fun i k h => h.elim) (fun i h => by (try dsimp only at h); exact Or.inr (Or.inr (by first | exact h | omega)))), l29⟩
      · skip
        have c58 := wt_ncle h43
        refine wt_T_it (fun s : Int32 × Int32 × wt_St => s.2.2 = z24.2.2.2 ∧ 0 ≤ (s.2.1).toInt ∧ (s.1.toInt = -1 ∨ (0 ≤ s.1.toInt ∧ s.1.toInt ≤ 59))) (fun s : Int32 × Int32 × wt_St => ((wt_gf s.2.2 108 28).toInt - s.2.1.toInt + 0).toNat) (fun KK59 z60 I61 hKK59 => ?_) _ _ ?_ ?_
        · skip
          obtain ⟨l62, l63, l64⟩ := I61
          unfold wp_md_least_B81
          rw [l62]
          have g66 : 0 ≤ (wt_gf z24.2.2.2 108 28).toInt ∧ (wt_gf z24.2.2.2 108 28).toInt ≤ 60 := wt_Rf6 l29
          have tt67 : (wt_gf z24.2.2.2 108 28).toInt = (wt_gf r19 108 28).toInt := congrArg Int32.toInt (l26.1 108 28 (fun z => z))
          have tt70 : (wt_gf r19 108 28).toInt = (wt_gf r8.2 108 28).toInt := congrArg Int32.toInt (f21.1 108 28 (fun z => z))
          have tt73 : (wt_gf r8.2 108 28).toInt = (wt_gf σ 108 28).toInt := congrArg Int32.toInt (f10.1 108 28 (by (try dsimp only); omega))
          have bb76 := wt_bd z60.2.1
          refine wt_T_if (fun h77 => ?_) (fun h77 => ?_)
          · skip
            have c78 := wt_cle h77
            have bb79 := wt_bd z60.1
            refine wt_T_if (fun h80 => ?_) (fun h80 => ?_)
            · skip
              have c81 := wt_ceq h80
              rw [wt_lm1] at c81
              refine wt_T_some ?_
              exact ⟨(wt_fr.tr (wt_fr.tr (wt_fr.tr wt_fr.rf f10 (fun i k h => by (try dsimp only at h); exact (by first | exact h | omega)) (fun i h => h.elim)) f21 (fun i k h => h.elim) (fun i h => by (try dsimp only at h); rcases h with h | h; exact Or.inl (by first | exact h | omega); exact Or.inr (Or.inl (by first | exact h | omega)))) l26 (fun i k h => h.elim) (fun i h => by (try dsimp only at h); exact Or.inr (Or.inr (by first | exact h | omega)))), l29⟩
            · skip
              have c82 := wt_nceq h80
              rw [wt_lm1] at c82
              refine wt_T_if (fun h83 => ?_) (fun h83 => ?_)
              · skip
                have c84 := wt_ceq h83
                refine wt_T_gd (wt_ix (by first | with_reducible assumption | omega) (by first | with_reducible assumption | omega)) ?_
                refine wt_T_gd (wt_ix (by first | with_reducible assumption | omega) (by first | with_reducible assumption | omega)) ?_
                unfold wp_md_least_B208
                refine wt_T_gd (wt_ix (by first | with_reducible assumption | omega) (by first | with_reducible assumption | omega)) ?_
                obtain ⟨σ85, eσ85⟩ : ∃ z : wt_St, z = wt_sa z24.2.2.2 317 (Int32.toNatClampNeg z24.2.2.1) z60.1 := ⟨_, rfl⟩
                rw [← eσ85]
                have fσ85 := wt_fr_sa eσ85
                have vσ85 := wt_ceq (wt_v_sa eσ85)
                have bb86 := wt_tn z24.2.2.1
                have rσ85 := wt_RI_no l29 eσ85 317 318 (by decide +kernel) (by decide) (by decide)
                have bb87 := wt_tn z60.1
                have bb88 := wt_bd (wt_ga z24.2.2.2 (292 + (Int32.toNatClampNeg z24.2.2.1)) (Int32.toNatClampNeg z60.1))
                have tt89 : (wt_ga z24.2.2.2 (292 + (Int32.toNatClampNeg z24.2.2.1)) (Int32.toNatClampNeg z60.1)).toInt = (wt_ga r19 (292 + (Int32.toNatClampNeg z24.2.2.1)) (Int32.toNatClampNeg z60.1)).toInt := congrArg Int32.toInt (l26.2 (292 + (Int32.toNatClampNeg z24.2.2.1)) (by (try dsimp only); omega) (Int32.toNatClampNeg z60.1))
                have bb90 := wt_bd (wt_ga r19 (292 + (Int32.toNatClampNeg z24.2.2.1)) (Int32.toNatClampNeg z60.1))
                have k91 : (1 : Int32).toInt = 1 := by decide
                obtain ⟨j92, j92a, j92b⟩ := wt_addI z24.2.2.1 (1 : Int32)
                have g94 : 0 ≤ (wt_ga σ85 253 (Int32.toNatClampNeg x1)).toInt ∧ (wt_ga σ85 253 (Int32.toNatClampNeg x1)).toInt ≤ 12 := wt_Ra9 rσ85 253 (by decide) (by decide) (Int32.toNatClampNeg x1)
                have tt95 : (wt_ga σ85 253 (Int32.toNatClampNeg x1)).toInt = (wt_ga z24.2.2.2 253 (Int32.toNatClampNeg x1)).toInt := congrArg Int32.toInt (fσ85.2 253 (by (try dsimp only); omega) (Int32.toNatClampNeg x1))
                refine hKK23 _ ⟨(wt_fr.tr (wt_fr.tr wt_fr.rf l26 (fun i k h => h.elim) (fun i h => by (try dsimp only at h); exact (by first | exact h | omega))) fσ85 (fun i k h => h.elim) (fun i h => by (try dsimp only at h); exact (by first | exact h | omega))), (wt_nn (B := wt_ga z24.2.2.2 253 (Int32.toNatClampNeg x1)) (by first | with_reducible assumption | omega) (by first | with_reducible assumption | omega)), (show (z60.1.toInt = -1 ∨ (0 ≤ z60.1.toInt ∧ z60.1.toInt ≤ 59)) by omega), rσ85⟩ ?_
                show ((wt_ga σ85 253 (Int32.toNatClampNeg x1)).toInt - (z24.2.2.1 + (1 : Int32)).toInt + 0).toNat < ((wt_ga z24.2.2.2 253 (Int32.toNatClampNeg x1)).toInt - z24.2.2.1.toInt + 0).toNat
                exact wt_mu (by first | with_reducible assumption | omega) (by first | with_reducible assumption | omega)
              · skip
                have c96 := wt_nceq h83
                unfold wp_md_least_B208
                refine wt_T_gd (wt_ix (by first | with_reducible assumption | omega) (by first | with_reducible assumption | omega)) ?_
                obtain ⟨σ97, eσ97⟩ : ∃ z : wt_St, z = wt_sa z24.2.2.2 317 (Int32.toNatClampNeg z24.2.2.1) z60.1 := ⟨_, rfl⟩
                rw [← eσ97]
                have fσ97 := wt_fr_sa eσ97
                have vσ97 := wt_ceq (wt_v_sa eσ97)
                have bb98 := wt_tn z24.2.2.1
                have rσ97 := wt_RI_no l29 eσ97 317 318 (by decide +kernel) (by decide) (by decide)
                have bb99 := wt_bd z24.1
                have k100 : (1 : Int32).toInt = 1 := by decide
                obtain ⟨j101, j101a, j101b⟩ := wt_addI z24.2.2.1 (1 : Int32)
                have g103 : 0 ≤ (wt_ga σ97 253 (Int32.toNatClampNeg x1)).toInt ∧ (wt_ga σ97 253 (Int32.toNatClampNeg x1)).toInt ≤ 12 := wt_Ra9 rσ97 253 (by decide) (by decide) (Int32.toNatClampNeg x1)
                have tt104 : (wt_ga σ97 253 (Int32.toNatClampNeg x1)).toInt = (wt_ga z24.2.2.2 253 (Int32.toNatClampNeg x1)).toInt := congrArg Int32.toInt (fσ97.2 253 (by (try dsimp only); omega) (Int32.toNatClampNeg x1))
                refine hKK23 _ ⟨(wt_fr.tr (wt_fr.tr wt_fr.rf l26 (fun i k h => h.elim) (fun i h => by (try dsimp only at h); exact (by first | exact h | omega))) fσ97 (fun i k h => h.elim) (fun i h => by (try dsimp only at h); exact (by first | exact h | omega))), (wt_nn (B := wt_ga z24.2.2.2 253 (Int32.toNatClampNeg x1)) (by first | with_reducible assumption | omega) (by first | with_reducible assumption | omega)), (show (z60.1.toInt = -1 ∨ (0 ≤ z60.1.toInt ∧ z60.1.toInt ≤ 59)) by omega), rσ97⟩ ?_
                show ((wt_ga σ97 253 (Int32.toNatClampNeg x1)).toInt - (z24.2.2.1 + (1 : Int32)).toInt + 0).toNat < ((wt_ga z24.2.2.2 253 (Int32.toNatClampNeg x1)).toInt - z24.2.2.1.toInt + 0).toNat
                exact wt_mu (by first | with_reducible assumption | omega) (by first | with_reducible assumption | omega)
          · skip
            have c105 := wt_ncle h77
            refine wt_T_bi (wq_md_isOf n hn z60.2.1 x1 z24.2.2.1 z24.2.2.2 l29 (by first | with_reducible assumption | omega) (by first | with_reducible assumption | omega) (by first | with_reducible assumption | omega) (by first | with_reducible assumption | omega) (by first | with_reducible assumption | omega) (by first | with_reducible assumption | omega)) (fun r106 h107 => ?_)
            have e108 := h107
            have bb109 := wt_bd r106.1
            rw [e108]
            refine wt_T_if (fun h110 => ?_) (fun h110 => ?_)
            · skip
              have c111 := wt_ceq h110
              unfold wp_md_least_B174
              have bb112 := wt_bd z60.1
              have k113 : (1 : Int32).toInt = 1 := by decide
              obtain ⟨j114, j114a, j114b⟩ := wt_addI z60.2.1 (1 : Int32)
              refine hKK59 _ ⟨rfl, (wt_nn (B := wt_gf z60.2.2 108 28) (by first | with_reducible assumption | omega) (by first | (rw [l62]; omega) | (rw [l62]; done) | omega)), (show (z60.1.toInt = -1 ∨ (0 ≤ z60.1.toInt ∧ z60.1.toInt ≤ 59)) by omega)⟩ ?_
              show ((wt_gf z24.2.2.2 108 28).toInt - (z60.2.1 + (1 : Int32)).toInt + 0).toNat < ((wt_gf z60.2.2 108 28).toInt - z60.2.1.toInt + 0).toNat
              exact wt_mu (by first | (rw [l62]; omega) | (rw [l62]; done) | omega) (by first | (rw [l62]; omega) | (rw [l62]; done) | omega)
            · skip
              have c115 := wt_nceq h110
              refine wt_T_gd (wt_ix (by first | with_reducible assumption | omega) (by first | with_reducible assumption | omega)) ?_
              refine wt_T_gd (wt_ix (by first | with_reducible assumption | omega) (by first | with_reducible assumption | omega)) ?_
              have bb116 := wt_tn z24.2.2.1
              have bb117 := wt_tn z60.2.1
              have bb118 := wt_bd (wt_ga z24.2.2.2 (292 + (Int32.toNatClampNeg z24.2.2.1)) (Int32.toNatClampNeg z60.2.1))
              have tt119 : (wt_ga z24.2.2.2 (292 + (Int32.toNatClampNeg z24.2.2.1)) (Int32.toNatClampNeg z60.2.1)).toInt = (wt_ga r19 (292 + (Int32.toNatClampNeg z24.2.2.1)) (Int32.toNatClampNeg z60.2.1)).toInt := congrArg Int32.toInt (l26.2 (292 + (Int32.toNatClampNeg z24.2.2.1)) (by (try dsimp only); omega) (Int32.toNatClampNeg z60.2.1))
              have bb120 := wt_bd (wt_ga r19 (292 + (Int32.toNatClampNeg z24.2.2.1)) (Int32.toNatClampNeg z60.2.1))
              refine wt_T_if (fun h121 => ?_) (fun h121 => ?_)
              · skip
                have c122 := wt_ceq h121
                rw [wt_lm1] at c122
                unfold wp_md_least_B174
                have bb123 := wt_bd z60.1
                have k124 : (1 : Int32).toInt = 1 := by decide
                obtain ⟨j125, j125a, j125b⟩ := wt_addI z60.2.1 (1 : Int32)
                refine hKK59 _ ⟨rfl, (wt_nn (B := wt_gf z60.2.2 108 28) (by first | with_reducible assumption | omega) (by first | (rw [l62]; omega) | (rw [l62]; done) | omega)), (show (z60.1.toInt = -1 ∨ (0 ≤ z60.1.toInt ∧ z60.1.toInt ≤ 59)) by omega)⟩ ?_
                show ((wt_gf z24.2.2.2 108 28).toInt - (z60.2.1 + (1 : Int32)).toInt + 0).toNat < ((wt_gf z60.2.2 108 28).toInt - z60.2.1.toInt + 0).toNat
                exact wt_mu (by first | (rw [l62]; omega) | (rw [l62]; done) | omega) (by first | (rw [l62]; omega) | (rw [l62]; done) | omega)
              · skip
                have c126 := wt_nceq h121
                rw [wt_lm1] at c126
                have bb127 := wt_bd z24.2.1
                refine wt_T_if (fun h128 => ?_) (fun h128 => ?_)
                · skip
                  have c129 := wt_ceq h128
                  rw [wt_lm1] at c129
                  unfold wp_md_least_B136
                  have bb130 := wt_bd z60.1
                  refine wt_T_if (fun h131 => ?_) (fun h131 => ?_)
                  · skip
                    have c132 := wt_ceq h131
                    rw [wt_lm1] at c132
                    unfold wp_md_least_B165
                    unfold wp_md_least_B172
                    unfold wp_md_least_B174
                    have k133 : (1 : Int32).toInt = 1 := by decide
                    obtain ⟨j134, j134a, j134b⟩ := wt_addI z60.2.1 (1 : Int32)
                    refine hKK59 _ ⟨rfl, (wt_nn (B := wt_gf z60.2.2 108 28) (by first | with_reducible assumption | omega) (by first | (rw [l62]; omega) | (rw [l62]; done) | omega)), (show (z60.2.1.toInt = -1 ∨ (0 ≤ z60.2.1.toInt ∧ z60.2.1.toInt ≤ 59)) by omega)⟩ ?_
                    show ((wt_gf z24.2.2.2 108 28).toInt - (z60.2.1 + (1 : Int32)).toInt + 0).toNat < ((wt_gf z60.2.2 108 28).toInt - z60.2.1.toInt + 0).toNat
                    exact wt_mu (by first | (rw [l62]; omega) | (rw [l62]; done) | omega) (by first | (rw [l62]; omega) | (rw [l62]; done) | omega)
                  · skip
                    have c135 := wt_nceq h131
                    rw [wt_lm1] at c135
                    refine wt_T_gd (wt_ix (by first | with_reducible assumption | omega) (by first | with_reducible assumption | omega)) ?_
                    refine wt_T_gd (wt_ix (by first | with_reducible assumption | omega) (by first | with_reducible assumption | omega)) ?_
                    refine wt_T_gd (wt_ix (by first | with_reducible assumption | omega) (by first | with_reducible assumption | omega)) ?_
                    refine wt_T_gd (wt_ix (by first | with_reducible assumption | omega) (by first | with_reducible assumption | omega)) ?_
                    have bb136 := wt_tn z60.1
                    have bb137 := wt_bd (wt_ga z24.2.2.2 (292 + (Int32.toNatClampNeg z24.2.2.1)) (Int32.toNatClampNeg z60.1))
                    have tt138 : (wt_ga z24.2.2.2 (292 + (Int32.toNatClampNeg z24.2.2.1)) (Int32.toNatClampNeg z60.1)).toInt = (wt_ga r19 (292 + (Int32.toNatClampNeg z24.2.2.1)) (Int32.toNatClampNeg z60.1)).toInt := congrArg Int32.toInt (l26.2 (292 + (Int32.toNatClampNeg z24.2.2.1)) (by (try dsimp only); omega) (Int32.toNatClampNeg z60.1))
                    have bb139 := wt_bd (wt_ga r19 (292 + (Int32.toNatClampNeg z24.2.2.1)) (Int32.toNatClampNeg z60.1))
                    refine wt_T_if (fun h140 => ?_) (fun h140 => ?_)
                    · skip
                      have c141 := wt_cle h140
                      unfold wp_md_least_B172
                      unfold wp_md_least_B174
                      have k142 : (1 : Int32).toInt = 1 := by decide
                      obtain ⟨j143, j143a, j143b⟩ := wt_addI z60.2.1 (1 : Int32)
                      refine hKK59 _ ⟨rfl, (wt_nn (B := wt_gf z60.2.2 108 28) (by first | with_reducible assumption | omega) (by first | (rw [l62]; omega) | (rw [l62]; done) | omega)), (show (z60.1.toInt = -1 ∨ (0 ≤ z60.1.toInt ∧ z60.1.toInt ≤ 59)) by omega)⟩ ?_
                      show ((wt_gf z24.2.2.2 108 28).toInt - (z60.2.1 + (1 : Int32)).toInt + 0).toNat < ((wt_gf z60.2.2 108 28).toInt - z60.2.1.toInt + 0).toNat
                      exact wt_mu (by first | (rw [l62]; omega) | (rw [l62]; done) | omega) (by first | (rw [l62]; omega) | (rw [l62]; done) | omega)
                    · skip
                      have c144 := wt_ncle h140
                      unfold wp_md_least_B165
                      unfold wp_md_least_B172
                      unfold wp_md_least_B174
                      have k145 : (1 : Int32).toInt = 1 := by decide
                      obtain ⟨j146, j146a, j146b⟩ := wt_addI z60.2.1 (1 : Int32)
                      refine hKK59 _ ⟨rfl, (wt_nn (B := wt_gf z60.2.2 108 28) (by first | with_reducible assumption | omega) (by first | (rw [l62]; omega) | (rw [l62]; done) | omega)), (show (z60.2.1.toInt = -1 ∨ (0 ≤ z60.2.1.toInt ∧ z60.2.1.toInt ≤ 59)) by omega)⟩ ?_
                      show ((wt_gf z24.2.2.2 108 28).toInt - (z60.2.1 + (1 : Int32)).toInt + 0).toNat < ((wt_gf z60.2.2 108 28).toInt - z60.2.1.toInt + 0).toNat
                      exact wt_mu (by first | (rw [l62]; omega) | (rw [l62]; done) | omega) (by first | (rw [l62]; omega) | (rw [l62]; done) | omega)
                · skip
                  have c147 := wt_nceq h128
                  rw [wt_lm1] at c147
                  refine wt_T_bi (wq_md_mayFollow n hn z24.2.1 z60.2.1 z24.2.2.2 l29 (by first | with_reducible assumption | omega) (by first | with_reducible assumption | omega) (by first | with_reducible assumption | omega) (by first | with_reducible assumption | omega)) (fun r148 h149 => ?_)
                  have e150 := h149
                  have bb151 := wt_bd r148.1
                  rw [e150]
                  refine wt_T_if (fun h152 => ?_) (fun h152 => ?_)
                  · skip
                    have c153 := wt_ceq h152
                    unfold wp_md_least_B174
                    have bb154 := wt_bd z60.1
                    have k155 : (1 : Int32).toInt = 1 := by decide
                    obtain ⟨j156, j156a, j156b⟩ := wt_addI z60.2.1 (1 : Int32)
                    refine hKK59 _ ⟨rfl, (wt_nn (B := wt_gf z60.2.2 108 28) (by first | with_reducible assumption | omega) (by first | (rw [l62]; omega) | (rw [l62]; done) | omega)), (show (z60.1.toInt = -1 ∨ (0 ≤ z60.1.toInt ∧ z60.1.toInt ≤ 59)) by omega)⟩ ?_
                    show ((wt_gf z24.2.2.2 108 28).toInt - (z60.2.1 + (1 : Int32)).toInt + 0).toNat < ((wt_gf z60.2.2 108 28).toInt - z60.2.1.toInt + 0).toNat
                    exact wt_mu (by first | (rw [l62]; omega) | (rw [l62]; done) | omega) (by first | (rw [l62]; omega) | (rw [l62]; done) | omega)
                  · skip
                    have c157 := wt_nceq h152
                    unfold wp_md_least_B136
                    have bb158 := wt_bd z60.1
                    refine wt_T_if (fun h159 => ?_) (fun h159 => ?_)
                    · skip
                      have c160 := wt_ceq h159
                      rw [wt_lm1] at c160
                      unfold wp_md_least_B165
                      unfold wp_md_least_B172
                      unfold wp_md_least_B174
                      have k161 : (1 : Int32).toInt = 1 := by decide
                      obtain ⟨j162, j162a, j162b⟩ := wt_addI z60.2.1 (1 : Int32)
                      refine hKK59 _ ⟨rfl, (wt_nn (B := wt_gf z60.2.2 108 28) (by first | with_reducible assumption | omega) (by first | (rw [l62]; omega) | (rw [l62]; done) | omega)), (show (z60.2.1.toInt = -1 ∨ (0 ≤ z60.2.1.toInt ∧ z60.2.1.toInt ≤ 59)) by omega)⟩ ?_
                      show ((wt_gf z24.2.2.2 108 28).toInt - (z60.2.1 + (1 : Int32)).toInt + 0).toNat < ((wt_gf z60.2.2 108 28).toInt - z60.2.1.toInt + 0).toNat
                      exact wt_mu (by first | (rw [l62]; omega) | (rw [l62]; done) | omega) (by first | (rw [l62]; omega) | (rw [l62]; done) | omega)
                    · skip
                      have c163 := wt_nceq h159
                      rw [wt_lm1] at c163
                      refine wt_T_gd (wt_ix (by first | with_reducible assumption | omega) (by first | with_reducible assumption | omega)) ?_
                      refine wt_T_gd (wt_ix (by first | with_reducible assumption | omega) (by first | with_reducible assumption | omega)) ?_
                      refine wt_T_gd (wt_ix (by first | with_reducible assumption | omega) (by first | with_reducible assumption | omega)) ?_
                      refine wt_T_gd (wt_ix (by first | with_reducible assumption | omega) (by first | with_reducible assumption | omega)) ?_
                      have bb164 := wt_tn z60.1
                      have bb165 := wt_bd (wt_ga z24.2.2.2 (292 + (Int32.toNatClampNeg z24.2.2.1)) (Int32.toNatClampNeg z60.1))
                      have tt166 : (wt_ga z24.2.2.2 (292 + (Int32.toNatClampNeg z24.2.2.1)) (Int32.toNatClampNeg z60.1)).toInt = (wt_ga r19 (292 + (Int32.toNatClampNeg z24.2.2.1)) (Int32.toNatClampNeg z60.1)).toInt := congrArg Int32.toInt (l26.2 (292 + (Int32.toNatClampNeg z24.2.2.1)) (by (try dsimp only); omega) (Int32.toNatClampNeg z60.1))
                      have bb167 := wt_bd (wt_ga r19 (292 + (Int32.toNatClampNeg z24.2.2.1)) (Int32.toNatClampNeg z60.1))
                      refine wt_T_if (fun h168 => ?_) (fun h168 => ?_)
                      · skip
                        have c169 := wt_cle h168
                        unfold wp_md_least_B172
                        unfold wp_md_least_B174
                        have k170 : (1 : Int32).toInt = 1 := by decide
                        obtain ⟨j171, j171a, j171b⟩ := wt_addI z60.2.1 (1 : Int32)
                        refine hKK59 _ ⟨rfl, (wt_nn (B := wt_gf z60.2.2 108 28) (by first | with_reducible assumption | omega) (by first | (rw [l62]; omega) | (rw [l62]; done) | omega)), (show (z60.1.toInt = -1 ∨ (0 ≤ z60.1.toInt ∧ z60.1.toInt ≤ 59)) by omega)⟩ ?_
                        show ((wt_gf z24.2.2.2 108 28).toInt - (z60.2.1 + (1 : Int32)).toInt + 0).toNat < ((wt_gf z60.2.2 108 28).toInt - z60.2.1.toInt + 0).toNat
                        exact wt_mu (by first | (rw [l62]; omega) | (rw [l62]; done) | omega) (by first | (rw [l62]; omega) | (rw [l62]; done) | omega)
                      · skip
                        have c172 := wt_ncle h168
                        unfold wp_md_least_B165
                        unfold wp_md_least_B172
                        unfold wp_md_least_B174
                        have k173 : (1 : Int32).toInt = 1 := by decide
                        obtain ⟨j174, j174a, j174b⟩ := wt_addI z60.2.1 (1 : Int32)
                        refine hKK59 _ ⟨rfl, (wt_nn (B := wt_gf z60.2.2 108 28) (by first | with_reducible assumption | omega) (by first | (rw [l62]; omega) | (rw [l62]; done) | omega)), (show (z60.2.1.toInt = -1 ∨ (0 ≤ z60.2.1.toInt ∧ z60.2.1.toInt ≤ 59)) by omega)⟩ ?_
                        show ((wt_gf z24.2.2.2 108 28).toInt - (z60.2.1 + (1 : Int32)).toInt + 0).toNat < ((wt_gf z60.2.2 108 28).toInt - z60.2.1.toInt + 0).toNat
                        exact wt_mu (by first | (rw [l62]; omega) | (rw [l62]; done) | omega) (by first | (rw [l62]; omega) | (rw [l62]; done) | omega)
        · skip
          have g176 : 0 ≤ (wt_gf z24.2.2.2 108 28).toInt ∧ (wt_gf z24.2.2.2 108 28).toInt ≤ 60 := wt_Rf6 l29
          have tt177 : (wt_gf z24.2.2.2 108 28).toInt = (wt_gf r19 108 28).toInt := congrArg Int32.toInt (l26.1 108 28 (fun z => z))
          have tt180 : (wt_gf r19 108 28).toInt = (wt_gf r8.2 108 28).toInt := congrArg Int32.toInt (f21.1 108 28 (fun z => z))
          have tt183 : (wt_gf r8.2 108 28).toInt = (wt_gf σ 108 28).toInt := congrArg Int32.toInt (f10.1 108 28 (by (try dsimp only); omega))
          have k186 := wt_lm1
          exact ⟨rfl, (show 0 ≤ ((0 : Int32)).toInt by omega), (show ((-1 : Int32).toInt = -1 ∨ (0 ≤ (-1 : Int32).toInt ∧ (-1 : Int32).toInt ≤ 59)) by omega)⟩
        · skip
          have g188 : 0 ≤ (wt_gf z24.2.2.2 108 28).toInt ∧ (wt_gf z24.2.2.2 108 28).toInt ≤ 60 := wt_Rf6 l29
          have tt189 : (wt_gf z24.2.2.2 108 28).toInt = (wt_gf r19 108 28).toInt := congrArg Int32.toInt (l26.1 108 28 (fun z => z))
          have tt192 : (wt_gf r19 108 28).toInt = (wt_gf r8.2 108 28).toInt := congrArg Int32.toInt (f21.1 108 28 (fun z => z))
          have tt195 : (wt_gf r8.2 108 28).toInt = (wt_gf σ 108 28).toInt := congrArg Int32.toInt (f10.1 108 28 (by (try dsimp only); omega))
          show ((wt_gf z24.2.2.2 108 28).toInt - (0 : Int32).toInt + 0).toNat < n
          omega
    · skip
      have bb198 := wt_tn x1
      have g200 : 0 ≤ (wt_ga r19 253 (Int32.toNatClampNeg x1)).toInt ∧ (wt_ga r19 253 (Int32.toNatClampNeg x1)).toInt ≤ 12 := wt_Ra9 ri22 253 (by decide) (by decide) (Int32.toNatClampNeg x1)
      have tt201 : (wt_ga r19 253 (Int32.toNatClampNeg x1)).toInt = (wt_ga r8.2 253 (Int32.toNatClampNeg x1)).toInt := congrArg Int32.toInt (f21.2 253 (by (try dsimp only); omega) (Int32.toNatClampNeg x1))
      have tt204 : (wt_ga r8.2 253 (Int32.toNatClampNeg x1)).toInt = (wt_ga σ 253 (Int32.toNatClampNeg x1)).toInt := congrArg Int32.toInt (f10.2 253 (fun z => z) (Int32.toNatClampNeg x1))
      have k207 := wt_lm1
      exact ⟨wt_fr.rf, (show 0 ≤ ((0 : Int32)).toInt by omega), (show ((-1 : Int32).toInt = -1 ∨ (0 ≤ (-1 : Int32).toInt ∧ (-1 : Int32).toInt ≤ 59)) by omega), ri22⟩
    · skip
      have bb208 := wt_tn x1
      have g210 : 0 ≤ (wt_ga r19 253 (Int32.toNatClampNeg x1)).toInt ∧ (wt_ga r19 253 (Int32.toNatClampNeg x1)).toInt ≤ 12 := wt_Ra9 ri22 253 (by decide) (by decide) (Int32.toNatClampNeg x1)
      have tt211 : (wt_ga r19 253 (Int32.toNatClampNeg x1)).toInt = (wt_ga r8.2 253 (Int32.toNatClampNeg x1)).toInt := congrArg Int32.toInt (f21.2 253 (by (try dsimp only); omega) (Int32.toNatClampNeg x1))
      have tt214 : (wt_ga r8.2 253 (Int32.toNatClampNeg x1)).toInt = (wt_ga σ 253 (Int32.toNatClampNeg x1)).toInt := congrArg Int32.toInt (f10.2 253 (fun z => z) (Int32.toNatClampNeg x1))
      show ((wt_ga r19 253 (Int32.toNatClampNeg x1)).toInt - (0 : Int32).toInt + 0).toNat < n
      omega
  · skip
    have c217 := wt_nceq h17
    refine wt_T_some ?_
    exact ⟨(wt_fr.tr wt_fr.rf f10 (fun i k h => by (try dsimp only at h); exact (by first | exact h | omega)) (fun i h => h.elim)), ri11⟩
set_option maxRecDepth 100000 in
set_option maxHeartbeats 4000000 in
theorem wq_md_least (n : Nat) (hn : 4294967297 < n) (x1 : Int32) (x2 : Int32) (x3 : Int32) (σ : wt_St) (r0 : wt_RI σ) : wt_T (wp_md_least n x1 x2 x3 σ) (fun q => wt_fr (fun i k => (i = 108 ∧ k = 0)) (fun i => (292 ≤ i ∧ i < 304) ∨ (305 ≤ i ∧ i < 317) ∨ i = 317) σ q.2 ∧ wt_RI q.2) := by
  have bb1 := wt_bd x1
  have bb2 := wt_bd x2
  have bb3 := wt_bd x3
  unfold wp_md_least
  obtain ⟨σ4, eσ4⟩ : ∃ z : wt_St, z = wt_sf σ 108 0 (0 : Int32) := ⟨_, rfl⟩
  rw [← eσ4]
  have fσ4 := wt_fr_sf eσ4
  have vσ4 := wt_ceq (wt_v_sf eσ4)
  have k5 : (0 : Int32).toInt = 0 := by decide
  have rσ4 := wt_RI_fno r0 eσ4 (Or.inr (by decide +kernel))
  refine wt_T_bi (wq_md_isText n hn x1 σ4 rσ4) (fun r6 h7 => ?_)
  obtain ⟨e8, pp9⟩ := h7
  have bb10 := wt_bd r6.1
  rw [e8]
  have g12 : 0 ≤ (wt_gf σ4 108 39).toInt ∧ (wt_gf σ4 108 39).toInt ≤ 8 := wt_Rf7 rσ4
  have tt13 : (wt_gf σ4 108 39).toInt = (wt_gf σ 108 39).toInt := congrArg Int32.toInt (fσ4.1 108 39 (by (try dsimp only); omega))
  refine wt_T_if (fun h16 => ?_) (fun h16 => ?_)
  · skip
    have c17 := wt_ceq h16
    unfold wp_md_least_B19
    have k18 : (1 : Int32).toInt = 1 := by decide
    refine wt_T_bi (wq_md_bad n hn (1 : Int32) (1 : Int32) σ4 rσ4 (by first | with_reducible assumption | omega)) (fun r19 h20 => ?_)
    obtain ⟨f21, ri22, pp23⟩ := h20
    have bb24 := wt_bd r19.1
    have bb25 := wt_bd (wt_gf r19.2 108 0)
    have bb26 := wt_bd (wt_gf σ4 108 0)
    refine wt_T_if (fun h27 => ?_) (fun h27 => ?_)
    · skip
      have c28 := wt_ceq h27
      refine wt_T_bi (wq_md_in n hn x3 (0 : Int32) (1 : Int32) r19.2 ri22) (fun r29 h30 => ?_)
      obtain ⟨e31, pp32⟩ := h30
      have bb33 := wt_bd r29.1
      rw [e31]
      refine wt_T_if (fun h34 => ?_) (fun h34 => ?_)
      · skip
        have c35 := wt_ceq h34
        have g37 : 0 ≤ (wt_gf r19.2 108 39).toInt ∧ (wt_gf r19.2 108 39).toInt ≤ 8 := wt_Rf7 ri22
        have tt38 : (wt_gf r19.2 108 39).toInt = (wt_gf σ4 108 39).toInt := congrArg Int32.toInt (f21.1 108 39 (by (try dsimp only); omega))
        refine wt_T.imp (wq_md_least_B41 n hn x1 x2 x3 (1 : Int32) r19.2 ri22 (by first | with_reducible assumption | omega)) (fun r39 h40 => ?_)
        have bb41 := wt_bd r39.1
        obtain ⟨f42, ri43⟩ := h40
        exact ⟨(wt_fr.tr (wt_fr.tr (wt_fr.tr wt_fr.rf fσ4 (fun i k h => by (try dsimp only at h); exact (by first | exact h | omega)) (fun i h => h.elim)) f21 (fun i k h => by (try dsimp only at h); exact (by first | exact h | omega)) (fun i h => h.elim)) f42 (fun i k h => by (try dsimp only at h); exact (by first | exact h | omega)) (fun i h => by (try dsimp only at h); rcases h with h | h | h; exact Or.inl (by first | exact h | omega); exact Or.inr (Or.inl (by first | exact h | omega)); exact Or.inr (Or.inr (by first | exact h | omega)))), ri43⟩
      · skip
        have c44 := wt_nceq h34
        have g46 : 0 ≤ (wt_gf r19.2 108 39).toInt ∧ (wt_gf r19.2 108 39).toInt ≤ 8 := wt_Rf7 ri22
        have tt47 : (wt_gf r19.2 108 39).toInt = (wt_gf σ4 108 39).toInt := congrArg Int32.toInt (f21.1 108 39 (by (try dsimp only); omega))
        refine wt_T.imp (wq_md_least_B41 n hn x1 x2 x3 (0 : Int32) r19.2 ri22 (by first | with_reducible assumption | omega)) (fun r48 h49 => ?_)
        have bb50 := wt_bd r48.1
        obtain ⟨f51, ri52⟩ := h49
        exact ⟨(wt_fr.tr (wt_fr.tr (wt_fr.tr wt_fr.rf fσ4 (fun i k h => by (try dsimp only at h); exact (by first | exact h | omega)) (fun i h => h.elim)) f21 (fun i k h => by (try dsimp only at h); exact (by first | exact h | omega)) (fun i h => h.elim)) f51 (fun i k h => by (try dsimp only at h); exact (by first | exact h | omega)) (fun i h => by (try dsimp only at h); rcases h with h | h | h; exact Or.inl (by first | exact h | omega); exact Or.inr (Or.inl (by first | exact h | omega)); exact Or.inr (Or.inr (by first | exact h | omega)))), ri52⟩
    · skip
      have c53 := wt_nceq h27
      refine wt_T_some ?_
      exact ⟨(wt_fr.tr (wt_fr.tr wt_fr.rf fσ4 (fun i k h => by (try dsimp only at h); exact (by first | exact h | omega)) (fun i h => h.elim)) f21 (fun i k h => by (try dsimp only at h); exact (by first | exact h | omega)) (fun i h => h.elim)), ri22⟩
  · skip
    have c54 := wt_nceq h16
    unfold wp_md_least_B19
    have k55 : (1 : Int32).toInt = 1 := by decide
    refine wt_T_bi (wq_md_bad n hn (0 : Int32) (1 : Int32) σ4 rσ4 (by first | with_reducible assumption | omega)) (fun r56 h57 => ?_)
    obtain ⟨f58, ri59, pp60⟩ := h57
    have bb61 := wt_bd r56.1
    have bb62 := wt_bd (wt_gf r56.2 108 0)
    have bb63 := wt_bd (wt_gf σ4 108 0)
    refine wt_T_if (fun h64 => ?_) (fun h64 => ?_)
    · skip
      have c65 := wt_ceq h64
      refine wt_T_bi (wq_md_in n hn x3 (0 : Int32) (1 : Int32) r56.2 ri59) (fun r66 h67 => ?_)
      obtain ⟨e68, pp69⟩ := h67
      have bb70 := wt_bd r66.1
      rw [e68]
      refine wt_T_if (fun h71 => ?_) (fun h71 => ?_)
      · skip
        have c72 := wt_ceq h71
        have g74 : 0 ≤ (wt_gf r56.2 108 39).toInt ∧ (wt_gf r56.2 108 39).toInt ≤ 8 := wt_Rf7 ri59
        have tt75 : (wt_gf r56.2 108 39).toInt = (wt_gf σ4 108 39).toInt := congrArg Int32.toInt (f58.1 108 39 (by (try dsimp only); omega))
        refine wt_T.imp (wq_md_least_B41 n hn x1 x2 x3 (1 : Int32) r56.2 ri59 (by first | with_reducible assumption | omega)) (fun r76 h77 => ?_)
        have bb78 := wt_bd r76.1
        obtain ⟨f79, ri80⟩ := h77
        exact ⟨(wt_fr.tr (wt_fr.tr (wt_fr.tr wt_fr.rf fσ4 (fun i k h => by (try dsimp only at h); exact (by first | exact h | omega)) (fun i h => h.elim)) f58 (fun i k h => by (try dsimp only at h); exact (by first | exact h | omega)) (fun i h => h.elim)) f79 (fun i k h => by (try dsimp only at h); exact (by first | exact h | omega)) (fun i h => by (try dsimp only at h); rcases h with h | h | h; exact Or.inl (by first | exact h | omega); exact Or.inr (Or.inl (by first | exact h | omega)); exact Or.inr (Or.inr (by first | exact h | omega)))), ri80⟩
      · skip
        have c81 := wt_nceq h71
        have g83 : 0 ≤ (wt_gf r56.2 108 39).toInt ∧ (wt_gf r56.2 108 39).toInt ≤ 8 := wt_Rf7 ri59
        have tt84 : (wt_gf r56.2 108 39).toInt = (wt_gf σ4 108 39).toInt := congrArg Int32.toInt (f58.1 108 39 (by (try dsimp only); omega))
        refine wt_T.imp (wq_md_least_B41 n hn x1 x2 x3 (0 : Int32) r56.2 ri59 (by first | with_reducible assumption | omega)) (fun r85 h86 => ?_)
        have bb87 := wt_bd r85.1
        obtain ⟨f88, ri89⟩ := h86
        exact ⟨(wt_fr.tr (wt_fr.tr (wt_fr.tr wt_fr.rf fσ4 (fun i k h => by (try dsimp only at h); exact (by first | exact h | omega)) (fun i h => h.elim)) f58 (fun i k h => by (try dsimp only at h); exact (by first | exact h | omega)) (fun i h => h.elim)) f88 (fun i k h => by (try dsimp only at h); exact (by first | exact h | omega)) (fun i h => by (try dsimp only at h); rcases h with h | h | h; exact Or.inl (by first | exact h | omega); exact Or.inr (Or.inl (by first | exact h | omega)); exact Or.inr (Or.inr (by first | exact h | omega)))), ri89⟩
    · skip
      have c90 := wt_nceq h64
      refine wt_T_some ?_
      exact ⟨(wt_fr.tr (wt_fr.tr wt_fr.rf fσ4 (fun i k h => by (try dsimp only at h); exact (by first | exact h | omega)) (fun i h => h.elim)) f58 (fun i k h => by (try dsimp only at h); exact (by first | exact h | omega)) (fun i h => h.elim)), ri59⟩
set_option maxRecDepth 100000 in
set_option maxHeartbeats 4000000 in
theorem wq_md_leastOf (n : Nat) (hn : 4294967297 < n) (x1 : Int32) (σ : wt_St) (r0 : wt_RI σ) (p0 : 0 ≤ x1.toInt) (p1 : x1.toInt ≤ 3) : wt_T (wp_md_leastOf n x1 σ) (fun q => q.2 = σ) := by
  have bb1 := wt_bd x1
  unfold wp_md_leastOf
  have k7 : (400 : Int32).toInt = 400 := by decide
  have k8 : (0 : Int32).toInt = 0 := by decide
  refine wt_T_it (fun s : Int32 × Int32 × wt_St => s.2.2 = σ ∧ 0 ≤ (s.2.1).toInt) (fun s : Int32 × Int32 × wt_St => ((wt_ga s.2.2 276 (Int32.toNatClampNeg x1)).toInt - s.2.1.toInt + 0).toNat) (fun KK2 z3 I4 hKK2 => ?_) _ _ ?_ ?_
  · skip
    obtain ⟨l5, l6⟩ := I4
    unfold wp_md_leastOf_B6
    rw [l5]
    have bb9 := wt_tn x1
    have g11 : 0 ≤ (wt_ga σ 276 (Int32.toNatClampNeg x1)).toInt ∧ (wt_ga σ 276 (Int32.toNatClampNeg x1)).toInt ≤ 108 := wt_Ra13 r0 276 (by decide) (by decide) (Int32.toNatClampNeg x1)
    have bb12 := wt_bd z3.2.1
    refine wt_T_gd (wt_ix (by first | with_reducible assumption | omega) (by first | with_reducible assumption | omega)) ?_
    refine wt_T_if (fun h13 => ?_) (fun h13 => ?_)
    · skip
      have c14 := wt_cle h13
      refine wt_T_some ?_
      exact rfl
    · skip
      have c15 := wt_ncle h13
      refine wt_T_gd (wt_ix (by first | with_reducible assumption | omega) (by first | with_reducible assumption | omega)) ?_
      refine wt_T_gd (wt_ix (by first | with_reducible assumption | omega) (by first | with_reducible assumption | omega)) ?_
      have bb16 := wt_tn z3.2.1
      have g18 : 0 ≤ (wt_ga σ (278 + (Int32.toNatClampNeg x1)) (Int32.toNatClampNeg z3.2.1)).toInt ∧ (wt_ga σ (278 + (Int32.toNatClampNeg x1)) (Int32.toNatClampNeg z3.2.1)).toInt ≤ 337 := wt_Ra14 r0 (278 + (Int32.toNatClampNeg x1)) (show 278 ≤ 278 + (Int32.toNatClampNeg x1) by omega) (show 278 + (Int32.toNatClampNeg x1) < 282 by omega) (Int32.toNatClampNeg z3.2.1)
      refine wt_T_gd (wt_ix (by first | with_reducible assumption | omega) (by first | with_reducible assumption | omega)) ?_
      have bb19 := wt_bd z3.1
      have bb20 := wt_tn (wt_ga σ (278 + (Int32.toNatClampNeg x1)) (Int32.toNatClampNeg z3.2.1))
      have g22 : 0 ≤ (wt_ga σ 121 (Int32.toNatClampNeg (wt_ga σ (278 + (Int32.toNatClampNeg x1)) (Int32.toNatClampNeg z3.2.1)))).toInt ∧ (wt_ga σ 121 (Int32.toNatClampNeg (wt_ga σ (278 + (Int32.toNatClampNeg x1)) (Int32.toNatClampNeg z3.2.1)))).toInt ≤ 400 := wt_Ra3 r0 121 (by decide) (by decide) (Int32.toNatClampNeg (wt_ga σ (278 + (Int32.toNatClampNeg x1)) (Int32.toNatClampNeg z3.2.1)))
      refine wt_T_if (fun h23 => ?_) (fun h23 => ?_)
      · skip
        have c24 := wt_cle h23
        unfold wp_md_leastOf_B50
        refine hKK2 _ ⟨rfl, (wt_nn (B := wt_ga z3.2.2 276 (Int32.toNatClampNeg x1)) (by first | with_reducible assumption | omega) (by first | (rw [l5]; omega) | (rw [l5]; done) | omega))⟩ ?_
        show ((wt_ga σ 276 (Int32.toNatClampNeg x1)).toInt - (z3.2.1 + (1 : Int32)).toInt + 0).toNat < ((wt_ga z3.2.2 276 (Int32.toNatClampNeg x1)).toInt - z3.2.1.toInt + 0).toNat
        exact wt_mu (by first | (rw [l5]; omega) | (rw [l5]; done) | omega) (by first | (rw [l5]; omega) | (rw [l5]; done) | omega)
      · skip
        have c25 := wt_ncle h23
        refine wt_T_gd (wt_ix (by first | with_reducible assumption | omega) (by first | with_reducible assumption | omega)) ?_
        refine wt_T_gd (wt_ix (by first | with_reducible assumption | omega) (by first | with_reducible assumption | omega)) ?_
        refine wt_T_gd (wt_ix (by first | with_reducible assumption | omega) (by first | with_reducible assumption | omega)) ?_
        unfold wp_md_leastOf_B50
        refine hKK2 _ ⟨rfl, (wt_nn (B := wt_ga z3.2.2 276 (Int32.toNatClampNeg x1)) (by first | with_reducible assumption | omega) (by first | (rw [l5]; omega) | (rw [l5]; done) | omega))⟩ ?_
        show ((wt_ga σ 276 (Int32.toNatClampNeg x1)).toInt - (z3.2.1 + (1 : Int32)).toInt + 0).toNat < ((wt_ga z3.2.2 276 (Int32.toNatClampNeg x1)).toInt - z3.2.1.toInt + 0).toNat
        exact wt_mu (by first | (rw [l5]; omega) | (rw [l5]; done) | omega) (by first | (rw [l5]; omega) | (rw [l5]; done) | omega)
  · skip
    have bb26 := wt_tn x1
    have g28 : 0 ≤ (wt_ga σ 276 (Int32.toNatClampNeg x1)).toInt ∧ (wt_ga σ 276 (Int32.toNatClampNeg x1)).toInt ≤ 108 := wt_Ra13 r0 276 (by decide) (by decide) (Int32.toNatClampNeg x1)
    exact ⟨rfl, (show 0 ≤ ((0 : Int32)).toInt by omega)⟩
  · skip
    have bb29 := wt_tn x1
    have g31 : 0 ≤ (wt_ga σ 276 (Int32.toNatClampNeg x1)).toInt ∧ (wt_ga σ 276 (Int32.toNatClampNeg x1)).toInt ≤ 108 := wt_Ra13 r0 276 (by decide) (by decide) (Int32.toNatClampNeg x1)
    show ((wt_ga σ 276 (Int32.toNatClampNeg x1)).toInt - (0 : Int32).toInt + 0).toNat < n
    omega
set_option maxRecDepth 100000 in
set_option maxHeartbeats 4000000 in
theorem wq_md_letter_B28 (n : Nat) (hn : 4294967297 < n) (x1 : Int32) (x2 : Int32) (y1 : Int32) (σ : wt_St) (r0 : wt_RI σ) (p0 : y1.toInt ≠ 0 ∨ (0 ≤ x1.toInt ∧ x1.toInt ≤ 25)) : wt_T (wp_md_letter_B28 n x1 x2 y1 σ) (fun q => wt_fr (fun i k => (i = 108 ∧ k = 0)) (fun i => False) σ q.2 ∧ wt_RI q.2) := by
  have bb1 := wt_bd x1
  have bb2 := wt_bd x2
  have bb3 := wt_bd y1
  unfold wp_md_letter_B28
  have k4 : (1 : Int32).toInt = 1 := by decide
  refine wt_T_bi (wq_md_bad n hn y1 (1 : Int32) σ r0 (by first | with_reducible assumption | omega)) (fun r5 h6 => ?_)
  obtain ⟨f7, ri8, pp9⟩ := h6
  have bb10 := wt_bd r5.1
  have bb11 := wt_bd (wt_gf r5.2 108 0)
  have bb12 := wt_bd (wt_gf σ 108 0)
  have k13 : (0 : Int32).toInt = 0 := by decide
  refine wt_T_if (fun h14 => ?_) (fun h14 => ?_)
  · skip
    have c15 := wt_ceq h14
    refine wt_T_it (fun s : Int32 × Int32 × Int32 × Int32 × Int32 × wt_St => s.2.2.2.2.2 = r5.2 ∧ 0 ≤ (s.2.2.2.2.1).toInt) (fun s : Int32 × Int32 × Int32 × Int32 × Int32 × wt_St => ((wt_ga s.2.2.2.2.2 111 (Int32.toNatClampNeg x1)).toInt - s.2.2.2.2.1.toInt + 0).toNat) (fun KK16 z17 I18 hKK16 => ?_) _ _ ?_ ?_
    · skip
      obtain ⟨l19, l20⟩ := I18
      unfold wp_md_letter_B51
      rw [l19]
      have bb21 := wt_tn x1
      have g23 : 0 ≤ (wt_ga r5.2 111 (Int32.toNatClampNeg x1)).toInt ∧ (wt_ga r5.2 111 (Int32.toNatClampNeg x1)).toInt ≤ 13 := wt_Ra1 ri8 111 (by decide) (by decide) (Int32.toNatClampNeg x1)
      have tt24 : (wt_ga r5.2 111 (Int32.toNatClampNeg x1)).toInt = (wt_ga σ 111 (Int32.toNatClampNeg x1)).toInt := congrArg Int32.toInt (f7.2 111 (fun z => z) (Int32.toNatClampNeg x1))
      have bb27 := wt_bd z17.2.2.2.2.1
      refine wt_T_gd (wt_ix (by first | with_reducible assumption | omega) (by first | with_reducible assumption | omega)) ?_
      refine wt_T_if (fun h28 => ?_) (fun h28 => ?_)
      · skip
        have c29 := wt_cle h28
        refine wt_T_if (fun h30 => ?_) (fun h30 => ?_)
        · skip
          have c31 := wt_ceq h30
          refine wt_T_gd (wt_ix (by first | with_reducible assumption | omega) (by first | with_reducible assumption | omega)) ?_
          refine wt_T_some ?_
          exact ⟨(wt_fr.tr wt_fr.rf f7 (fun i k h => by (try dsimp only at h); exact (by first | exact h | omega)) (fun i h => h.elim)), ri8⟩
        · skip
          have c32 := wt_nceq h30
          refine wt_T_if (fun h33 => ?_) (fun h33 => ?_)
          · skip
            have c34 := wt_ceq h33
            refine wt_T_some ?_
            exact ⟨(wt_fr.tr wt_fr.rf f7 (fun i k h => by (try dsimp only at h); exact (by first | exact h | omega)) (fun i h => h.elim)), ri8⟩
          · skip
            have c35 := wt_nceq h33
            have k36 : (2 : Int32).toInt = 2 := by decide
            refine wt_T_if (fun h37 => ?_) (fun h37 => ?_)
            · skip
              have c38 := wt_ceq h37
              refine wt_T_some ?_
              exact ⟨(wt_fr.tr wt_fr.rf f7 (fun i k h => by (try dsimp only at h); exact (by first | exact h | omega)) (fun i h => h.elim)), ri8⟩
            · skip
              have c39 := wt_nceq h37
              have k40 : (3 : Int32).toInt = 3 := by decide
              refine wt_T_if (fun h41 => ?_) (fun h41 => ?_)
              · skip
                have c42 := wt_ceq h41
                refine wt_T_some ?_
                exact ⟨(wt_fr.tr wt_fr.rf f7 (fun i k h => by (try dsimp only at h); exact (by first | exact h | omega)) (fun i h => h.elim)), ri8⟩
              · skip
                have c43 := wt_nceq h41
                have k44 : (4 : Int32).toInt = 4 := by decide
                refine wt_T_if (fun h45 => ?_) (fun h45 => ?_)
                · skip
                  have c46 := wt_ceq h45
                  refine wt_T_some ?_
                  exact ⟨(wt_fr.tr wt_fr.rf f7 (fun i k h => by (try dsimp only at h); exact (by first | exact h | omega)) (fun i h => h.elim)), ri8⟩
                · skip
                  have c47 := wt_nceq h45
                  have k48 : (5 : Int32).toInt = 5 := by decide
                  refine wt_T_if (fun h49 => ?_) (fun h49 => ?_)
                  · skip
                    have c50 := wt_ceq h49
                    refine wt_T_gd (wt_ix (by first | with_reducible assumption | omega) (by first | with_reducible assumption | omega)) ?_
                    refine wt_T_some ?_
                    exact ⟨(wt_fr.tr wt_fr.rf f7 (fun i k h => by (try dsimp only at h); exact (by first | exact h | omega)) (fun i h => h.elim)), ri8⟩
                  · skip
                    have c51 := wt_nceq h49
                    have k52 : (6 : Int32).toInt = 6 := by decide
                    refine wt_T_if (fun h53 => ?_) (fun h53 => ?_)
                    · skip
                      have c54 := wt_ceq h53
                      refine wt_T_gd (wt_ix (by first | with_reducible assumption | omega) (by first | with_reducible assumption | omega)) ?_
                      refine wt_T_some ?_
                      exact ⟨(wt_fr.tr wt_fr.rf f7 (fun i k h => by (try dsimp only at h); exact (by first | exact h | omega)) (fun i h => h.elim)), ri8⟩
                    · skip
                      have c55 := wt_nceq h53
                      refine wt_T_gd (wt_ix (by first | with_reducible assumption | omega) (by first | with_reducible assumption | omega)) ?_
                      refine wt_T_some ?_
                      exact ⟨(wt_fr.tr wt_fr.rf f7 (fun i k h => by (try dsimp only at h); exact (by first | exact h | omega)) (fun i h => h.elim)), ri8⟩
      · skip
        have c56 := wt_ncle h28
        refine wt_T_bi (wq_md_cell n hn x1 z17.2.2.2.2.1 r5.2 ri8 (by first | with_reducible assumption | omega) (by first | with_reducible assumption | omega) (by first | with_reducible assumption | omega) (by first | with_reducible assumption | omega)) (fun r57 h58 => ?_)
        obtain ⟨e59, pp60⟩ := h58
        have bb61 := wt_bd r57.1
        rw [e59]
        refine wt_T_gd (wt_ix (by first | with_reducible assumption | omega) (by first | with_reducible assumption | omega)) ?_
        refine wt_T_bi (wq_md_cell n hn x1 z17.2.2.2.2.1 r5.2 ri8 (by first | with_reducible assumption | omega) (by first | with_reducible assumption | omega) (by first | with_reducible assumption | omega) (by first | with_reducible assumption | omega)) (fun r62 h63 => ?_)
        obtain ⟨e64, pp65⟩ := h63
        have bb66 := wt_bd r62.1
        rw [e64]
        refine wt_T_gd (wt_ix (by first | with_reducible assumption | omega) (by first | with_reducible assumption | omega)) ?_
        have bb67 := wt_tn r62.1
        have bb68 := wt_bd (wt_ga r5.2 124 (Int32.toNatClampNeg r62.1))
        have tt69 : (wt_ga r5.2 124 (Int32.toNatClampNeg r62.1)).toInt = (wt_ga σ 124 (Int32.toNatClampNeg r62.1)).toInt := congrArg Int32.toInt (f7.2 124 (fun z => z) (Int32.toNatClampNeg r62.1))
        have bb70 := wt_bd (wt_ga σ 124 (Int32.toNatClampNeg r62.1))
        refine wt_T_if (fun h71 => ?_) (fun h71 => ?_)
        · skip
          have c72 := wt_ceq h71
          rw [wt_lm1] at c72
          unfold wp_md_letter_B96
          have bb73 := wt_tn r57.1
          have g75 : 0 ≤ (wt_ga r5.2 121 (Int32.toNatClampNeg r57.1)).toInt ∧ (wt_ga r5.2 121 (Int32.toNatClampNeg r57.1)).toInt ≤ 400 := wt_Ra3 ri8 121 (by decide) (by decide) (Int32.toNatClampNeg r57.1)
          have tt76 : (wt_ga r5.2 121 (Int32.toNatClampNeg r57.1)).toInt = (wt_ga σ 121 (Int32.toNatClampNeg r57.1)).toInt := congrArg Int32.toInt (f7.2 121 (fun z => z) (Int32.toNatClampNeg r57.1))
          have bb79 := wt_bd z17.2.2.1
          refine wt_T_if (fun h80 => ?_) (fun h80 => ?_)
          · skip
            have c81 := wt_cle h80
            unfold wp_md_letter_B119
            refine wt_T_if (fun h82 => ?_) (fun h82 => ?_)
            · skip
              have c83 := wt_ceq h82
              unfold wp_md_letter_B133
              have bb84 := wt_bd z17.1
              obtain ⟨j85, j85a, j85b⟩ := wt_addI z17.1 (1 : Int32)
              have bb86 := wt_bd z17.2.1
              obtain ⟨j87, j87a, j87b⟩ := wt_addI z17.2.1 (wt_ga r5.2 121 (Int32.toNatClampNeg r57.1))
              have bb88 := wt_bd z17.2.2.2.1
              obtain ⟨j89, j89a, j89b⟩ := wt_addI z17.2.2.2.1 (1 : Int32)
              refine hKK16 _ ⟨rfl, (wt_nn (B := wt_ga z17.2.2.2.2.2 111 (Int32.toNatClampNeg x1)) (by first | with_reducible assumption | omega) (by first | (rw [l19]; omega) | (rw [l19]; done) | omega))⟩ ?_
              show ((wt_ga r5.2 111 (Int32.toNatClampNeg x1)).toInt - (z17.2.2.2.2.1 + (1 : Int32)).toInt + 0).toNat < ((wt_ga z17.2.2.2.2.2 111 (Int32.toNatClampNeg x1)).toInt - z17.2.2.2.2.1.toInt + 0).toNat
              exact wt_mu (by first | (rw [l19]; omega) | (rw [l19]; done) | omega) (by first | (rw [l19]; omega) | (rw [l19]; done) | omega)
            · skip
              have c90 := wt_nceq h82
              unfold wp_md_letter_B133
              have bb91 := wt_bd z17.1
              obtain ⟨j92, j92a, j92b⟩ := wt_addI z17.1 (1 : Int32)
              have bb93 := wt_bd z17.2.1
              obtain ⟨j94, j94a, j94b⟩ := wt_addI z17.2.1 (wt_ga r5.2 121 (Int32.toNatClampNeg r57.1))
              have bb95 := wt_bd z17.2.2.2.1
              obtain ⟨j96, j96a, j96b⟩ := wt_addI z17.2.2.2.1 (0 : Int32)
              refine hKK16 _ ⟨rfl, (wt_nn (B := wt_ga z17.2.2.2.2.2 111 (Int32.toNatClampNeg x1)) (by first | with_reducible assumption | omega) (by first | (rw [l19]; omega) | (rw [l19]; done) | omega))⟩ ?_
              show ((wt_ga r5.2 111 (Int32.toNatClampNeg x1)).toInt - (z17.2.2.2.2.1 + (1 : Int32)).toInt + 0).toNat < ((wt_ga z17.2.2.2.2.2 111 (Int32.toNatClampNeg x1)).toInt - z17.2.2.2.2.1.toInt + 0).toNat
              exact wt_mu (by first | (rw [l19]; omega) | (rw [l19]; done) | omega) (by first | (rw [l19]; omega) | (rw [l19]; done) | omega)
          · skip
            have c97 := wt_ncle h80
            unfold wp_md_letter_B119
            refine wt_T_if (fun h98 => ?_) (fun h98 => ?_)
            · skip
              have c99 := wt_ceq h98
              unfold wp_md_letter_B133
              have bb100 := wt_bd z17.1
              obtain ⟨j101, j101a, j101b⟩ := wt_addI z17.1 (1 : Int32)
              have bb102 := wt_bd z17.2.1
              obtain ⟨j103, j103a, j103b⟩ := wt_addI z17.2.1 (wt_ga r5.2 121 (Int32.toNatClampNeg r57.1))
              have bb104 := wt_bd z17.2.2.2.1
              obtain ⟨j105, j105a, j105b⟩ := wt_addI z17.2.2.2.1 (1 : Int32)
              refine hKK16 _ ⟨rfl, (wt_nn (B := wt_ga z17.2.2.2.2.2 111 (Int32.toNatClampNeg x1)) (by first | with_reducible assumption | omega) (by first | (rw [l19]; omega) | (rw [l19]; done) | omega))⟩ ?_
              show ((wt_ga r5.2 111 (Int32.toNatClampNeg x1)).toInt - (z17.2.2.2.2.1 + (1 : Int32)).toInt + 0).toNat < ((wt_ga z17.2.2.2.2.2 111 (Int32.toNatClampNeg x1)).toInt - z17.2.2.2.2.1.toInt + 0).toNat
              exact wt_mu (by first | (rw [l19]; omega) | (rw [l19]; done) | omega) (by first | (rw [l19]; omega) | (rw [l19]; done) | omega)
            · skip
              have c106 := wt_nceq h98
              unfold wp_md_letter_B133
              have bb107 := wt_bd z17.1
              obtain ⟨j108, j108a, j108b⟩ := wt_addI z17.1 (1 : Int32)
              have bb109 := wt_bd z17.2.1
              obtain ⟨j110, j110a, j110b⟩ := wt_addI z17.2.1 (wt_ga r5.2 121 (Int32.toNatClampNeg r57.1))
              have bb111 := wt_bd z17.2.2.2.1
              obtain ⟨j112, j112a, j112b⟩ := wt_addI z17.2.2.2.1 (0 : Int32)
              refine hKK16 _ ⟨rfl, (wt_nn (B := wt_ga z17.2.2.2.2.2 111 (Int32.toNatClampNeg x1)) (by first | with_reducible assumption | omega) (by first | (rw [l19]; omega) | (rw [l19]; done) | omega))⟩ ?_
              show ((wt_ga r5.2 111 (Int32.toNatClampNeg x1)).toInt - (z17.2.2.2.2.1 + (1 : Int32)).toInt + 0).toNat < ((wt_ga z17.2.2.2.2.2 111 (Int32.toNatClampNeg x1)).toInt - z17.2.2.2.2.1.toInt + 0).toNat
              exact wt_mu (by first | (rw [l19]; omega) | (rw [l19]; done) | omega) (by first | (rw [l19]; omega) | (rw [l19]; done) | omega)
        · skip
          have c113 := wt_nceq h71
          rw [wt_lm1] at c113
          unfold wp_md_letter_B96
          have bb114 := wt_tn r57.1
          have g116 : 0 ≤ (wt_ga r5.2 121 (Int32.toNatClampNeg r57.1)).toInt ∧ (wt_ga r5.2 121 (Int32.toNatClampNeg r57.1)).toInt ≤ 400 := wt_Ra3 ri8 121 (by decide) (by decide) (Int32.toNatClampNeg r57.1)
          have tt117 : (wt_ga r5.2 121 (Int32.toNatClampNeg r57.1)).toInt = (wt_ga σ 121 (Int32.toNatClampNeg r57.1)).toInt := congrArg Int32.toInt (f7.2 121 (fun z => z) (Int32.toNatClampNeg r57.1))
          have bb120 := wt_bd z17.2.2.1
          refine wt_T_if (fun h121 => ?_) (fun h121 => ?_)
          · skip
            have c122 := wt_cle h121
            unfold wp_md_letter_B119
            refine wt_T_if (fun h123 => ?_) (fun h123 => ?_)
            · skip
              have c124 := wt_ceq h123
              unfold wp_md_letter_B133
              have bb125 := wt_bd z17.1
              obtain ⟨j126, j126a, j126b⟩ := wt_addI z17.1 (0 : Int32)
              have bb127 := wt_bd z17.2.1
              obtain ⟨j128, j128a, j128b⟩ := wt_addI z17.2.1 (wt_ga r5.2 121 (Int32.toNatClampNeg r57.1))
              have bb129 := wt_bd z17.2.2.2.1
              obtain ⟨j130, j130a, j130b⟩ := wt_addI z17.2.2.2.1 (1 : Int32)
              refine hKK16 _ ⟨rfl, (wt_nn (B := wt_ga z17.2.2.2.2.2 111 (Int32.toNatClampNeg x1)) (by first | with_reducible assumption | omega) (by first | (rw [l19]; omega) | (rw [l19]; done) | omega))⟩ ?_
              show ((wt_ga r5.2 111 (Int32.toNatClampNeg x1)).toInt - (z17.2.2.2.2.1 + (1 : Int32)).toInt + 0).toNat < ((wt_ga z17.2.2.2.2.2 111 (Int32.toNatClampNeg x1)).toInt - z17.2.2.2.2.1.toInt + 0).toNat
              exact wt_mu (by first | (rw [l19]; omega) | (rw [l19]; done) | omega) (by first | (rw [l19]; omega) | (rw [l19]; done) | omega)
            · skip
              have c131 := wt_nceq h123
              unfold wp_md_letter_B133
              have bb132 := wt_bd z17.1
              obtain ⟨j133, j133a, j133b⟩ := wt_addI z17.1 (0 : Int32)
              have bb134 := wt_bd z17.2.1
              obtain ⟨j135, j135a, j135b⟩ := wt_addI z17.2.1 (wt_ga r5.2 121 (Int32.toNatClampNeg r57.1))
              have bb136 := wt_bd z17.2.2.2.1
              obtain ⟨j137, j137a, j137b⟩ := wt_addI z17.2.2.2.1 (0 : Int32)
              refine hKK16 _ ⟨rfl, (wt_nn (B := wt_ga z17.2.2.2.2.2 111 (Int32.toNatClampNeg x1)) (by first | with_reducible assumption | omega) (by first | (rw [l19]; omega) | (rw [l19]; done) | omega))⟩ ?_
              show ((wt_ga r5.2 111 (Int32.toNatClampNeg x1)).toInt - (z17.2.2.2.2.1 + (1 : Int32)).toInt + 0).toNat < ((wt_ga z17.2.2.2.2.2 111 (Int32.toNatClampNeg x1)).toInt - z17.2.2.2.2.1.toInt + 0).toNat
              exact wt_mu (by first | (rw [l19]; omega) | (rw [l19]; done) | omega) (by first | (rw [l19]; omega) | (rw [l19]; done) | omega)
          · skip
            have c138 := wt_ncle h121
            unfold wp_md_letter_B119
            refine wt_T_if (fun h139 => ?_) (fun h139 => ?_)
            · skip
              have c140 := wt_ceq h139
              unfold wp_md_letter_B133
              have bb141 := wt_bd z17.1
              obtain ⟨j142, j142a, j142b⟩ := wt_addI z17.1 (0 : Int32)
              have bb143 := wt_bd z17.2.1
              obtain ⟨j144, j144a, j144b⟩ := wt_addI z17.2.1 (wt_ga r5.2 121 (Int32.toNatClampNeg r57.1))
              have bb145 := wt_bd z17.2.2.2.1
              obtain ⟨j146, j146a, j146b⟩ := wt_addI z17.2.2.2.1 (1 : Int32)
              refine hKK16 _ ⟨rfl, (wt_nn (B := wt_ga z17.2.2.2.2.2 111 (Int32.toNatClampNeg x1)) (by first | with_reducible assumption | omega) (by first | (rw [l19]; omega) | (rw [l19]; done) | omega))⟩ ?_
              show ((wt_ga r5.2 111 (Int32.toNatClampNeg x1)).toInt - (z17.2.2.2.2.1 + (1 : Int32)).toInt + 0).toNat < ((wt_ga z17.2.2.2.2.2 111 (Int32.toNatClampNeg x1)).toInt - z17.2.2.2.2.1.toInt + 0).toNat
              exact wt_mu (by first | (rw [l19]; omega) | (rw [l19]; done) | omega) (by first | (rw [l19]; omega) | (rw [l19]; done) | omega)
            · skip
              have c147 := wt_nceq h139
              unfold wp_md_letter_B133
              have bb148 := wt_bd z17.1
              obtain ⟨j149, j149a, j149b⟩ := wt_addI z17.1 (0 : Int32)
              have bb150 := wt_bd z17.2.1
              obtain ⟨j151, j151a, j151b⟩ := wt_addI z17.2.1 (wt_ga r5.2 121 (Int32.toNatClampNeg r57.1))
              have bb152 := wt_bd z17.2.2.2.1
              obtain ⟨j153, j153a, j153b⟩ := wt_addI z17.2.2.2.1 (0 : Int32)
              refine hKK16 _ ⟨rfl, (wt_nn (B := wt_ga z17.2.2.2.2.2 111 (Int32.toNatClampNeg x1)) (by first | with_reducible assumption | omega) (by first | (rw [l19]; omega) | (rw [l19]; done) | omega))⟩ ?_
              show ((wt_ga r5.2 111 (Int32.toNatClampNeg x1)).toInt - (z17.2.2.2.2.1 + (1 : Int32)).toInt + 0).toNat < ((wt_ga z17.2.2.2.2.2 111 (Int32.toNatClampNeg x1)).toInt - z17.2.2.2.2.1.toInt + 0).toNat
              exact wt_mu (by first | (rw [l19]; omega) | (rw [l19]; done) | omega) (by first | (rw [l19]; omega) | (rw [l19]; done) | omega)
    · skip
      have bb154 := wt_tn x1
      have g156 : 0 ≤ (wt_ga r5.2 111 (Int32.toNatClampNeg x1)).toInt ∧ (wt_ga r5.2 111 (Int32.toNatClampNeg x1)).toInt ≤ 13 := wt_Ra1 ri8 111 (by decide) (by decide) (Int32.toNatClampNeg x1)
      have tt157 : (wt_ga r5.2 111 (Int32.toNatClampNeg x1)).toInt = (wt_ga σ 111 (Int32.toNatClampNeg x1)).toInt := congrArg Int32.toInt (f7.2 111 (fun z => z) (Int32.toNatClampNeg x1))
      exact ⟨rfl, (show 0 ≤ ((0 : Int32)).toInt by omega)⟩
    · skip
      have bb160 := wt_tn x1
      have g162 : 0 ≤ (wt_ga r5.2 111 (Int32.toNatClampNeg x1)).toInt ∧ (wt_ga r5.2 111 (Int32.toNatClampNeg x1)).toInt ≤ 13 := wt_Ra1 ri8 111 (by decide) (by decide) (Int32.toNatClampNeg x1)
      have tt163 : (wt_ga r5.2 111 (Int32.toNatClampNeg x1)).toInt = (wt_ga σ 111 (Int32.toNatClampNeg x1)).toInt := congrArg Int32.toInt (f7.2 111 (fun z => z) (Int32.toNatClampNeg x1))
      show ((wt_ga r5.2 111 (Int32.toNatClampNeg x1)).toInt - (0 : Int32).toInt + 0).toNat < n
      omega
  · skip
    have c166 := wt_nceq h14
    refine wt_T_some ?_
    exact ⟨(wt_fr.tr wt_fr.rf f7 (fun i k h => by (try dsimp only at h); exact (by first | exact h | omega)) (fun i h => h.elim)), ri8⟩
set_option maxRecDepth 100000 in
set_option maxHeartbeats 4000000 in
theorem wq_md_letter (n : Nat) (hn : 4294967297 < n) (x1 : Int32) (x2 : Int32) (σ : wt_St) (r0 : wt_RI σ) : wt_T (wp_md_letter n x1 x2 σ) (fun q => wt_fr (fun i k => (i = 108 ∧ k = 0)) (fun i => False) σ q.2 ∧ wt_RI q.2) := by
  have bb1 := wt_bd x1
  have bb2 := wt_bd x2
  unfold wp_md_letter
  obtain ⟨σ3, eσ3⟩ : ∃ z : wt_St, z = wt_sf σ 108 0 (0 : Int32) := ⟨_, rfl⟩
  rw [← eσ3]
  have fσ3 := wt_fr_sf eσ3
  have vσ3 := wt_ceq (wt_v_sf eσ3)
  have k4 : (0 : Int32).toInt = 0 := by decide
  have rσ3 := wt_RI_fno r0 eσ3 (Or.inr (by decide +kernel))
  refine wt_T_bi (wq_md_isLetter n hn x1 σ3 rσ3) (fun r5 h6 => ?_)
  obtain ⟨e7, pp8⟩ := h6
  have bb9 := wt_bd r5.1
  rw [e7]
  refine wt_T_if (fun h10 => ?_) (fun h10 => ?_)
  · skip
    have c11 := wt_ceq h10
    unfold wp_md_letter_B23
    have k12 : (1 : Int32).toInt = 1 := by decide
    refine wt_T.imp (wq_md_letter_B28 n hn x1 x2 (1 : Int32) σ3 rσ3 (by first | with_reducible assumption | omega)) (fun r13 h14 => ?_)
    have bb15 := wt_bd r13.1
    obtain ⟨f16, ri17⟩ := h14
    exact ⟨(wt_fr.tr (wt_fr.tr wt_fr.rf fσ3 (fun i k h => by (try dsimp only at h); exact (by first | exact h | omega)) (fun i h => h.elim)) f16 (fun i k h => by (try dsimp only at h); exact (by first | exact h | omega)) (fun i h => h.elim)), ri17⟩
  · skip
    have c18 := wt_nceq h10
    have k19 : (7 : Int32).toInt = 7 := by decide
    refine wt_T_bi (wq_md_in n hn x2 (0 : Int32) (7 : Int32) σ3 rσ3) (fun r20 h21 => ?_)
    obtain ⟨e22, pp23⟩ := h21
    have bb24 := wt_bd r20.1
    rw [e22]
    refine wt_T_if (fun h25 => ?_) (fun h25 => ?_)
    · skip
      have c26 := wt_ceq h25
      unfold wp_md_letter_B23
      have k27 : (1 : Int32).toInt = 1 := by decide
      refine wt_T.imp (wq_md_letter_B28 n hn x1 x2 (1 : Int32) σ3 rσ3 (by first | with_reducible assumption | omega)) (fun r28 h29 => ?_)
      have bb30 := wt_bd r28.1
      obtain ⟨f31, ri32⟩ := h29
      exact ⟨(wt_fr.tr (wt_fr.tr wt_fr.rf fσ3 (fun i k h => by (try dsimp only at h); exact (by first | exact h | omega)) (fun i h => h.elim)) f31 (fun i k h => by (try dsimp only at h); exact (by first | exact h | omega)) (fun i h => h.elim)), ri32⟩
    · skip
      have c33 := wt_nceq h25
      refine wt_T.imp (wq_md_letter_B28 n hn x1 x2 (0 : Int32) σ3 rσ3 (by first | with_reducible assumption | omega)) (fun r34 h35 => ?_)
      have bb36 := wt_bd r34.1
      obtain ⟨f37, ri38⟩ := h35
      exact ⟨(wt_fr.tr (wt_fr.tr wt_fr.rf fσ3 (fun i k h => by (try dsimp only at h); exact (by first | exact h | omega)) (fun i h => h.elim)) f37 (fun i k h => by (try dsimp only at h); exact (by first | exact h | omega)) (fun i h => h.elim)), ri38⟩
set_option maxRecDepth 100000 in
set_option maxHeartbeats 4000000 in
theorem wq_md_lost (n : Nat) (hn : 4294967297 < n) (x1 : Int32) (σ : wt_St) (r0 : wt_RI σ) : wt_T (wp_md_lost n x1 σ) (fun q => wt_fr (fun i k => (i = 108 ∧ k = 0) ∨ (i = 108 ∧ k = 54)) (fun i => i = 286 ∨ i = 287 ∨ i = 124 ∨ i = 288 ∨ i = 121) σ q.2 ∧ wt_RI q.2) := by
  have bb1 := wt_bd x1
  unfold wp_md_lost
  obtain ⟨σ2, eσ2⟩ : ∃ z : wt_St, z = wt_sf σ 108 0 (0 : Int32) := ⟨_, rfl⟩
  rw [← eσ2]
  have fσ2 := wt_fr_sf eσ2
  have vσ2 := wt_ceq (wt_v_sf eσ2)
  have k3 : (0 : Int32).toInt = 0 := by decide
  have rσ2 := wt_RI_fno r0 eσ2 (Or.inr (by decide +kernel))
  refine wt_T_bi (wq_md_isWeek n hn x1 σ2 rσ2) (fun r4 h5 => ?_)
  obtain ⟨e6, pp7⟩ := h5
  have bb8 := wt_bd r4.1
  rw [e6]
  refine wt_T_if (fun h9 => ?_) (fun h9 => ?_)
  · skip
    have c10 := wt_ceq h9
    unfold wp_md_lost_B18
    have k11 : (1 : Int32).toInt = 1 := by decide
    refine wt_T_bi (wq_md_bad n hn (1 : Int32) (1 : Int32) σ2 rσ2 (by first | with_reducible assumption | omega)) (fun r12 h13 => ?_)
    obtain ⟨f14, ri15, pp16⟩ := h13
    have bb17 := wt_bd r12.1
    have bb18 := wt_bd (wt_gf r12.2 108 0)
    have bb19 := wt_bd (wt_gf σ2 108 0)
    refine wt_T_if (fun h20 => ?_) (fun h20 => ?_)
    · skip
      have c21 := wt_ceq h20
      refine wt_T_bi (wq_md_greedyAhead n hn x1 r12.2 ri15) (fun r22 h23 => ?_)
      obtain ⟨f24, ri25⟩ := h23
      refine wt_T_it (fun s : Int32 × Int32 × wt_St => wt_fr (fun i k => False) (fun i => i = 287) r22.2 s.2.2 ∧ 0 ≤ (s.2.1).toInt ∧ wt_RI s.2.2) (fun s : Int32 × Int32 × wt_St => ((wt_gf s.2.2 108 28).toInt - s.2.1.toInt + 0).toNat) (fun KK26 z27 I28 hKK26 => ?_) _ _ ?_ ?_
      · skip
        obtain ⟨l29, l30, l31⟩ := I28
        unfold wp_md_lost_B37
        have g33 : 0 ≤ (wt_gf z27.2.2 108 28).toInt ∧ (wt_gf z27.2.2 108 28).toInt ≤ 60 := wt_Rf6 l31
        have tt34 : (wt_gf z27.2.2 108 28).toInt = (wt_gf r22.2 108 28).toInt := congrArg Int32.toInt (l29.1 108 28 (fun z => z))
        have tt37 : (wt_gf r22.2 108 28).toInt = (wt_gf r12.2 108 28).toInt := congrArg Int32.toInt (f24.1 108 28 (by (try dsimp only); omega))
        have tt40 : (wt_gf r12.2 108 28).toInt = (wt_gf σ2 108 28).toInt := congrArg Int32.toInt (f14.1 108 28 (by (try dsimp only); omega))
        have tt43 : (wt_gf σ2 108 28).toInt = (wt_gf σ 108 28).toInt := congrArg Int32.toInt (fσ2.1 108 28 (by (try dsimp only); omega))
        have bb46 := wt_bd z27.2.1
        refine wt_T_if (fun h47 => ?_) (fun h47 => ?_)
        · skip
          have c48 := wt_cle h47
          refine wt_T_bi (wq_md_putsBack n hn z27.2.2 l31) (fun r49 h50 => ?_)
          obtain ⟨f51, ri52⟩ := h50
          refine wt_T_some ?_
          exact ⟨(wt_fr.tr (wt_fr.tr (wt_fr.tr (wt_fr.tr (wt_fr.tr wt_fr.rf fσ2 (fun i k h => by (try dsimp only at h); exact Or.inl (by first | exact h | omega)) (fun i h => h.elim)) f14 (fun i k h => by (try dsimp only at h); exact Or.inl (by first | exact h | omega)) (fun i h => h.elim)) f24 (fun i k h => by (try dsimp only at h); exact Or.inr (by first | exact h | omega)) (fun i h => by (try dsimp only at h); rcases h with h | h | h | h | h; exact Or.inl (by first | exact h | omega); exact Or.inr (Or.inl (by first | exact h | omega)); exact Or.inr (Or.inr (Or.inl (by first | exact h | omega))); exact Or.inr (Or.inr (Or.inr (Or.inl (by first | exact h | omega)))); exact Or.inr (Or.inr (Or.inr (Or.inr (by first | exact h | omega)))))) l29 (fun i k h => h.elim) (fun i h => by (try dsimp only at h); exact Or.inr (Or.inl (by first | exact h | omega)))) f51 (fun i k h => h.elim) (fun i h => by (try dsimp only at h); exact Or.inr (Or.inr (Or.inr (Or.inr (by first | exact h | omega)))))), ri52⟩
        · skip
          have c53 := wt_ncle h47
          refine wt_T_bi (wq_md_canWord n hn z27.2.1 z27.2.2 l31 (by first | with_reducible assumption | omega) (by first | with_reducible assumption | omega)) (fun r54 h55 => ?_)
          obtain ⟨f56, ri57, pp58⟩ := h55
          have bb59 := wt_bd r54.1
          refine wt_T_if (fun h60 => ?_) (fun h60 => ?_)
          · skip
            have c61 := wt_ceq h60
            unfold wp_md_lost_B59
            have bb62 := wt_bd z27.1
            obtain ⟨j63, j63a, j63b⟩ := wt_addI z27.1 (1 : Int32)
            have g65 : 0 ≤ (wt_gf r54.2 108 28).toInt ∧ (wt_gf r54.2 108 28).toInt ≤ 60 := wt_Rf6 ri57
            have tt66 : (wt_gf r54.2 108 28).toInt = (wt_gf z27.2.2 108 28).toInt := congrArg Int32.toInt (f56.1 108 28 (fun z => z))
            refine hKK26 _ ⟨(wt_fr.tr (wt_fr.tr wt_fr.rf l29 (fun i k h => h.elim) (fun i h => by (try dsimp only at h); exact (by first | exact h | omega))) f56 (fun i k h => h.elim) (fun i h => by (try dsimp only at h); exact (by first | exact h | omega))), (wt_nn (B := wt_gf z27.2.2 108 28) (by first | with_reducible assumption | omega) (by first | with_reducible assumption | omega)), ri57⟩ ?_
            show ((wt_gf r54.2 108 28).toInt - (z27.2.1 + (1 : Int32)).toInt + 0).toNat < ((wt_gf z27.2.2 108 28).toInt - z27.2.1.toInt + 0).toNat
            exact wt_mu (by first | with_reducible assumption | omega) (by first | with_reducible assumption | omega)
          · skip
            have c67 := wt_nceq h60
            unfold wp_md_lost_B59
            have bb68 := wt_bd z27.1
            obtain ⟨j69, j69a, j69b⟩ := wt_addI z27.1 (0 : Int32)
            have g71 : 0 ≤ (wt_gf r54.2 108 28).toInt ∧ (wt_gf r54.2 108 28).toInt ≤ 60 := wt_Rf6 ri57
            have tt72 : (wt_gf r54.2 108 28).toInt = (wt_gf z27.2.2 108 28).toInt := congrArg Int32.toInt (f56.1 108 28 (fun z => z))
            refine hKK26 _ ⟨(wt_fr.tr (wt_fr.tr wt_fr.rf l29 (fun i k h => h.elim) (fun i h => by (try dsimp only at h); exact (by first | exact h | omega))) f56 (fun i k h => h.elim) (fun i h => by (try dsimp only at h); exact (by first | exact h | omega))), (wt_nn (B := wt_gf z27.2.2 108 28) (by first | with_reducible assumption | omega) (by first | with_reducible assumption | omega)), ri57⟩ ?_
            show ((wt_gf r54.2 108 28).toInt - (z27.2.1 + (1 : Int32)).toInt + 0).toNat < ((wt_gf z27.2.2 108 28).toInt - z27.2.1.toInt + 0).toNat
            exact wt_mu (by first | with_reducible assumption | omega) (by first | with_reducible assumption | omega)
      · skip
        have g74 : 0 ≤ (wt_gf r22.2 108 28).toInt ∧ (wt_gf r22.2 108 28).toInt ≤ 60 := wt_Rf6 ri25
        have tt75 : (wt_gf r22.2 108 28).toInt = (wt_gf r12.2 108 28).toInt := congrArg Int32.toInt (f24.1 108 28 (by (try dsimp only); omega))
        have tt78 : (wt_gf r12.2 108 28).toInt = (wt_gf σ2 108 28).toInt := congrArg Int32.toInt (f14.1 108 28 (by (try dsimp only); omega))
        have tt81 : (wt_gf σ2 108 28).toInt = (wt_gf σ 108 28).toInt := congrArg Int32.toInt (fσ2.1 108 28 (by (try dsimp only); omega))
        exact ⟨wt_fr.rf, (show 0 ≤ ((0 : Int32)).toInt by omega), ri25⟩
      · skip
        have g85 : 0 ≤ (wt_gf r22.2 108 28).toInt ∧ (wt_gf r22.2 108 28).toInt ≤ 60 := wt_Rf6 ri25
        have tt86 : (wt_gf r22.2 108 28).toInt = (wt_gf r12.2 108 28).toInt := congrArg Int32.toInt (f24.1 108 28 (by (try dsimp only); omega))
        have tt89 : (wt_gf r12.2 108 28).toInt = (wt_gf σ2 108 28).toInt := congrArg Int32.toInt (f14.1 108 28 (by (try dsimp only); omega))
        have tt92 : (wt_gf σ2 108 28).toInt = (wt_gf σ 108 28).toInt := congrArg Int32.toInt (fσ2.1 108 28 (by (try dsimp only); omega))
        show ((wt_gf r22.2 108 28).toInt - (0 : Int32).toInt + 0).toNat < n
        omega
    · skip
      have c95 := wt_nceq h20
      refine wt_T_some ?_
      exact ⟨(wt_fr.tr (wt_fr.tr wt_fr.rf fσ2 (fun i k h => by (try dsimp only at h); exact Or.inl (by first | exact h | omega)) (fun i h => h.elim)) f14 (fun i k h => by (try dsimp only at h); exact Or.inl (by first | exact h | omega)) (fun i h => h.elim)), ri15⟩
  · skip
    have c96 := wt_nceq h9
    unfold wp_md_lost_B18
    have k97 : (1 : Int32).toInt = 1 := by decide
    refine wt_T_bi (wq_md_bad n hn (0 : Int32) (1 : Int32) σ2 rσ2 (by first | with_reducible assumption | omega)) (fun r98 h99 => ?_)
    obtain ⟨f100, ri101, pp102⟩ := h99
    have bb103 := wt_bd r98.1
    have bb104 := wt_bd (wt_gf r98.2 108 0)
    have bb105 := wt_bd (wt_gf σ2 108 0)
    refine wt_T_if (fun h106 => ?_) (fun h106 => ?_)
    · skip
      have c107 := wt_ceq h106
      refine wt_T_bi (wq_md_greedyAhead n hn x1 r98.2 ri101) (fun r108 h109 => ?_)
      obtain ⟨f110, ri111⟩ := h109
      refine wt_T_it (fun s : Int32 × Int32 × wt_St => wt_fr (fun i k => False) (fun i => i = 287) r108.2 s.2.2 ∧ 0 ≤ (s.2.1).toInt ∧ wt_RI s.2.2) (fun s : Int32 × Int32 × wt_St => ((wt_gf s.2.2 108 28).toInt - s.2.1.toInt + 0).toNat) (fun KK112 z113 I114 hKK112 => ?_) _ _ ?_ ?_
      · skip
        obtain ⟨l115, l116, l117⟩ := I114
        unfold wp_md_lost_B37
        have g119 : 0 ≤ (wt_gf z113.2.2 108 28).toInt ∧ (wt_gf z113.2.2 108 28).toInt ≤ 60 := wt_Rf6 l117
        have tt120 : (wt_gf z113.2.2 108 28).toInt = (wt_gf r108.2 108 28).toInt := congrArg Int32.toInt (l115.1 108 28 (fun z => z))
        have tt123 : (wt_gf r108.2 108 28).toInt = (wt_gf r98.2 108 28).toInt := congrArg Int32.toInt (f110.1 108 28 (by (try dsimp only); omega))
        have tt126 : (wt_gf r98.2 108 28).toInt = (wt_gf σ2 108 28).toInt := congrArg Int32.toInt (f100.1 108 28 (by (try dsimp only); omega))
        have tt129 : (wt_gf σ2 108 28).toInt = (wt_gf σ 108 28).toInt := congrArg Int32.toInt (fσ2.1 108 28 (by (try dsimp only); omega))
        have bb132 := wt_bd z113.2.1
        refine wt_T_if (fun h133 => ?_) (fun h133 => ?_)
        · skip
          have c134 := wt_cle h133
          refine wt_T_bi (wq_md_putsBack n hn z113.2.2 l117) (fun r135 h136 => ?_)
          obtain ⟨f137, ri138⟩ := h136
          refine wt_T_some ?_
          exact ⟨(wt_fr.tr (wt_fr.tr (wt_fr.tr (wt_fr.tr (wt_fr.tr wt_fr.rf fσ2 (fun i k h => by (try dsimp only at h); exact Or.inl (by first | exact h | omega)) (fun i h => h.elim)) f100 (fun i k h => by (try dsimp only at h); exact Or.inl (by first | exact h | omega)) (fun i h => h.elim)) f110 (fun i k h => by (try dsimp only at h); exact Or.inr (by first | exact h | omega)) (fun i h => by (try dsimp only at h); rcases h with h | h | h | h | h; exact Or.inl (by first | exact h | omega); exact Or.inr (Or.inl (by first | exact h | omega)); exact Or.inr (Or.inr (Or.inl (by first | exact h | omega))); exact Or.inr (Or.inr (Or.inr (Or.inl (by first | exact h | omega)))); exact Or.inr (Or.inr (Or.inr (Or.inr (by first | exact h | omega)))))) l115 (fun i k h => h.elim) (fun i h => by (try dsimp only at h); exact Or.inr (Or.inl (by first | exact h | omega)))) f137 (fun i k h => h.elim) (fun i h => by (try dsimp only at h); exact Or.inr (Or.inr (Or.inr (Or.inr (by first | exact h | omega)))))), ri138⟩
        · skip
          have c139 := wt_ncle h133
          refine wt_T_bi (wq_md_canWord n hn z113.2.1 z113.2.2 l117 (by first | with_reducible assumption | omega) (by first | with_reducible assumption | omega)) (fun r140 h141 => ?_)
          obtain ⟨f142, ri143, pp144⟩ := h141
          have bb145 := wt_bd r140.1
          refine wt_T_if (fun h146 => ?_) (fun h146 => ?_)
          · skip
            have c147 := wt_ceq h146
            unfold wp_md_lost_B59
            have bb148 := wt_bd z113.1
            obtain ⟨j149, j149a, j149b⟩ := wt_addI z113.1 (1 : Int32)
            have g151 : 0 ≤ (wt_gf r140.2 108 28).toInt ∧ (wt_gf r140.2 108 28).toInt ≤ 60 := wt_Rf6 ri143
            have tt152 : (wt_gf r140.2 108 28).toInt = (wt_gf z113.2.2 108 28).toInt := congrArg Int32.toInt (f142.1 108 28 (fun z => z))
            refine hKK112 _ ⟨(wt_fr.tr (wt_fr.tr wt_fr.rf l115 (fun i k h => h.elim) (fun i h => by (try dsimp only at h); exact (by first | exact h | omega))) f142 (fun i k h => h.elim) (fun i h => by (try dsimp only at h); exact (by first | exact h | omega))), (wt_nn (B := wt_gf z113.2.2 108 28) (by first | with_reducible assumption | omega) (by first | with_reducible assumption | omega)), ri143⟩ ?_
            show ((wt_gf r140.2 108 28).toInt - (z113.2.1 + (1 : Int32)).toInt + 0).toNat < ((wt_gf z113.2.2 108 28).toInt - z113.2.1.toInt + 0).toNat
            exact wt_mu (by first | with_reducible assumption | omega) (by first | with_reducible assumption | omega)
          · skip
            have c153 := wt_nceq h146
            unfold wp_md_lost_B59
            have bb154 := wt_bd z113.1
            obtain ⟨j155, j155a, j155b⟩ := wt_addI z113.1 (0 : Int32)
            have g157 : 0 ≤ (wt_gf r140.2 108 28).toInt ∧ (wt_gf r140.2 108 28).toInt ≤ 60 := wt_Rf6 ri143
            have tt158 : (wt_gf r140.2 108 28).toInt = (wt_gf z113.2.2 108 28).toInt := congrArg Int32.toInt (f142.1 108 28 (fun z => z))
            refine hKK112 _ ⟨(wt_fr.tr (wt_fr.tr wt_fr.rf l115 (fun i k h => h.elim) (fun i h => by (try dsimp only at h); exact (by first | exact h | omega))) f142 (fun i k h => h.elim) (fun i h => by (try dsimp only at h); exact (by first | exact h | omega))), (wt_nn (B := wt_gf z113.2.2 108 28) (by first | with_reducible assumption | omega) (by first | with_reducible assumption | omega)), ri143⟩ ?_
            show ((wt_gf r140.2 108 28).toInt - (z113.2.1 + (1 : Int32)).toInt + 0).toNat < ((wt_gf z113.2.2 108 28).toInt - z113.2.1.toInt + 0).toNat
            exact wt_mu (by first | with_reducible assumption | omega) (by first | with_reducible assumption | omega)
      · skip
        have g160 : 0 ≤ (wt_gf r108.2 108 28).toInt ∧ (wt_gf r108.2 108 28).toInt ≤ 60 := wt_Rf6 ri111
        have tt161 : (wt_gf r108.2 108 28).toInt = (wt_gf r98.2 108 28).toInt := congrArg Int32.toInt (f110.1 108 28 (by (try dsimp only); omega))
        have tt164 : (wt_gf r98.2 108 28).toInt = (wt_gf σ2 108 28).toInt := congrArg Int32.toInt (f100.1 108 28 (by (try dsimp only); omega))
        have tt167 : (wt_gf σ2 108 28).toInt = (wt_gf σ 108 28).toInt := congrArg Int32.toInt (fσ2.1 108 28 (by (try dsimp only); omega))
        exact ⟨wt_fr.rf, (show 0 ≤ ((0 : Int32)).toInt by omega), ri111⟩
      · skip
        have g171 : 0 ≤ (wt_gf r108.2 108 28).toInt ∧ (wt_gf r108.2 108 28).toInt ≤ 60 := wt_Rf6 ri111
        have tt172 : (wt_gf r108.2 108 28).toInt = (wt_gf r98.2 108 28).toInt := congrArg Int32.toInt (f110.1 108 28 (by (try dsimp only); omega))
        have tt175 : (wt_gf r98.2 108 28).toInt = (wt_gf σ2 108 28).toInt := congrArg Int32.toInt (f100.1 108 28 (by (try dsimp only); omega))
        have tt178 : (wt_gf σ2 108 28).toInt = (wt_gf σ 108 28).toInt := congrArg Int32.toInt (fσ2.1 108 28 (by (try dsimp only); omega))
        show ((wt_gf r108.2 108 28).toInt - (0 : Int32).toInt + 0).toNat < n
        omega
    · skip
      have c181 := wt_nceq h106
      refine wt_T_some ?_
      exact ⟨(wt_fr.tr (wt_fr.tr wt_fr.rf fσ2 (fun i k h => by (try dsimp only at h); exact Or.inl (by first | exact h | omega)) (fun i h => h.elim)) f100 (fun i k h => by (try dsimp only at h); exact Or.inl (by first | exact h | omega)) (fun i h => h.elim)), ri101⟩
set_option maxRecDepth 100000 in
set_option maxHeartbeats 4000000 in
theorem wq_md_most_B20 (n : Nat) (hn : 4294967297 < n) (x1 : Int32) (y1 : Int32) (σ : wt_St) (r0 : wt_RI σ) : wt_T (wp_md_most_B20 n x1 y1 σ) (fun q => wt_fr (fun i k => (i = 108 ∧ k = 0) ∨ (i = 108 ∧ k = 54)) (fun i => i = 286 ∨ i = 287 ∨ i = 124 ∨ i = 288 ∨ i = 121) σ q.2 ∧ wt_RI q.2) := by
  have bb1 := wt_bd x1
  have bb2 := wt_bd y1
  unfold wp_md_most_B20
  have k3 : (1 : Int32).toInt = 1 := by decide
  refine wt_T_bi (wq_md_bad n hn y1 (1 : Int32) σ r0 (by first | with_reducible assumption | omega)) (fun r4 h5 => ?_)
  obtain ⟨f6, ri7, pp8⟩ := h5
  have bb9 := wt_bd r4.1
  have bb10 := wt_bd (wt_gf r4.2 108 0)
  have bb11 := wt_bd (wt_gf σ 108 0)
  have k12 : (0 : Int32).toInt = 0 := by decide
  refine wt_T_if (fun h13 => ?_) (fun h13 => ?_)
  · skip
    have c14 := wt_ceq h13
    refine wt_T_it (fun s : Int32 × Int32 × Int32 × wt_St => wt_fr (fun i k => (i = 108 ∧ k = 54)) (fun i => i = 286 ∨ i = 287 ∨ i = 124 ∨ i = 288 ∨ i = 121) r4.2 s.2.2.2 ∧ 0 ≤ (s.2.2.1).toInt ∧ wt_RI s.2.2.2) (fun s : Int32 × Int32 × Int32 × wt_St => (2147483647 - s.2.2.1.toInt).toNat) (fun KK15 z16 I17 hKK15 => ?_) _ _ ?_ ?_
    · skip
      obtain ⟨l18, l19, l20⟩ := I17
      unfold wp_md_most_B36
      have bb21 := wt_bd z16.2.2.1
      have g23 : 0 ≤ (wt_gf z16.2.2.2 108 40).toInt ∧ (wt_gf z16.2.2.2 108 40).toInt ≤ 10 := wt_Rf8 l20
      have tt24 : (wt_gf z16.2.2.2 108 40).toInt = (wt_gf r4.2 108 40).toInt := congrArg Int32.toInt (l18.1 108 40 (by (try dsimp only); omega))
      have tt27 : (wt_gf r4.2 108 40).toInt = (wt_gf σ 108 40).toInt := congrArg Int32.toInt (f6.1 108 40 (by (try dsimp only); omega))
      have k30 : (31 : Int32).toInt = 31 := by decide
      have bb31 := wt_bd ((wt_gf z16.2.2.2 108 40) &&& 31)
      have bb32 := wt_bd ((1 : Int32) <<< ((wt_gf z16.2.2.2 108 40) &&& 31))
      refine wt_T_if (fun h33 => ?_) (fun h33 => ?_)
      · skip
        have c34 := wt_cle h33
        refine wt_T_if (fun h35 => ?_) (fun h35 => ?_)
        · skip
          have c36 := wt_ceq h35
          have bb37 := wt_bd z16.1
          refine wt_T_bi (wq_md_worthOf n hn z16.1 z16.2.2.2 l20) (fun r38 h39 => ?_)
          have e40 := h39
          have bb41 := wt_bd r38.1
          rw [e40]
          refine wt_T_some ?_
          exact ⟨(wt_fr.tr (wt_fr.tr wt_fr.rf f6 (fun i k h => by (try dsimp only at h); exact Or.inl (by first | exact h | omega)) (fun i h => h.elim)) l18 (fun i k h => by (try dsimp only at h); exact Or.inr (by first | exact h | omega)) (fun i h => by (try dsimp only at h); rcases h with h | h | h | h | h; exact Or.inl (by first | exact h | omega); exact Or.inr (Or.inl (by first | exact h | omega)); exact Or.inr (Or.inr (Or.inl (by first | exact h | omega))); exact Or.inr (Or.inr (Or.inr (Or.inl (by first | exact h | omega)))); exact Or.inr (Or.inr (Or.inr (Or.inr (by first | exact h | omega)))))), l20⟩
        · skip
          have c42 := wt_nceq h35
          refine wt_T_if (fun h43 => ?_) (fun h43 => ?_)
          · skip
            have c44 := wt_ceq h43
            refine wt_T_some ?_
            exact ⟨(wt_fr.tr (wt_fr.tr wt_fr.rf f6 (fun i k h => by (try dsimp only at h); exact Or.inl (by first | exact h | omega)) (fun i h => h.elim)) l18 (fun i k h => by (try dsimp only at h); exact Or.inr (by first | exact h | omega)) (fun i h => by (try dsimp only at h); rcases h with h | h | h | h | h; exact Or.inl (by first | exact h | omega); exact Or.inr (Or.inl (by first | exact h | omega)); exact Or.inr (Or.inr (Or.inl (by first | exact h | omega))); exact Or.inr (Or.inr (Or.inr (Or.inl (by first | exact h | omega)))); exact Or.inr (Or.inr (Or.inr (Or.inr (by first | exact h | omega)))))), l20⟩
          · skip
            have c45 := wt_nceq h43
            refine wt_T_some ?_
            exact ⟨(wt_fr.tr (wt_fr.tr wt_fr.rf f6 (fun i k h => by (try dsimp only at h); exact Or.inl (by first | exact h | omega)) (fun i h => h.elim)) l18 (fun i k h => by (try dsimp only at h); exact Or.inr (by first | exact h | omega)) (fun i h => by (try dsimp only at h); rcases h with h | h | h | h | h; exact Or.inl (by first | exact h | omega); exact Or.inr (Or.inl (by first | exact h | omega)); exact Or.inr (Or.inr (Or.inl (by first | exact h | omega))); exact Or.inr (Or.inr (Or.inr (Or.inl (by first | exact h | omega)))); exact Or.inr (Or.inr (Or.inr (Or.inr (by first | exact h | omega)))))), l20⟩
      · skip
        have c46 := wt_ncle h33
        refine wt_T_bi (wq_md_puts n hn z16.2.2.2 l20) (fun r47 h48 => ?_)
        obtain ⟨f49, ri50⟩ := h48
        have k51 : (100 : Int32).toInt = 100 := by decide
        refine wt_T_bi (wq_md_prints n hn z16.2.2.1 (0 : Int32) (100 : Int32) r47 ri50) (fun r52 h53 => ?_)
        obtain ⟨f54, ri55⟩ := h53
        have bb56 := wt_bd r52.1
        refine wt_T_if (fun h57 => ?_) (fun h57 => ?_)
        · skip
          have c58 := wt_ceq h57
          rw [wt_lm1] at c58
          unfold wp_md_most_B69
          refine wt_T_bi (wq_md_putsBack n hn r52.2 ri55) (fun r59 h60 => ?_)
          obtain ⟨f61, ri62⟩ := h60
          refine wt_T_if (fun h63 => ?_) (fun h63 => ?_)
          · skip
            have c64 := wt_ceq h63
            unfold wp_md_most_B107
            have bb65 := wt_bd z16.1
            have bb66 := wt_bd z16.2.1
            obtain ⟨j67, j67a, j67b⟩ := wt_addI z16.2.2.1 (1 : Int32)
            refine hKK15 _ ⟨(wt_fr.tr (wt_fr.tr (wt_fr.tr (wt_fr.tr wt_fr.rf l18 (fun i k h => by (try dsimp only at h); exact (by first | exact h | omega)) (fun i h => by (try dsimp only at h); rcases h with h | h | h | h | h; exact Or.inl (by first | exact h | omega); exact Or.inr (Or.inl (by first | exact h | omega)); exact Or.inr (Or.inr (Or.inl (by first | exact h | omega))); exact Or.inr (Or.inr (Or.inr (Or.inl (by first | exact h | omega)))); exact Or.inr (Or.inr (Or.inr (Or.inr (by first | exact h | omega)))))) f49 (fun i k h => h.elim) (fun i h => by (try dsimp only at h); exact Or.inl (by first | exact h | omega))) f54 (fun i k h => by (try dsimp only at h); exact (by first | exact h | omega)) (fun i h => by (try dsimp only at h); rcases h with h | h | h | h; exact Or.inr (Or.inl (by first | exact h | omega)); exact Or.inr (Or.inr (Or.inl (by first | exact h | omega))); exact Or.inr (Or.inr (Or.inr (Or.inl (by first | exact h | omega)))); exact Or.inr (Or.inr (Or.inr (Or.inr (by first | exact h | omega)))))) f61 (fun i k h => h.elim) (fun i h => by (try dsimp only at h); exact Or.inr (Or.inr (Or.inr (Or.inr (by first | exact h | omega)))))), (show 0 ≤ ((z16.2.2.1 + (1 : Int32))).toInt by omega), ri62⟩ ?_
            show (2147483647 - (z16.2.2.1 + (1 : Int32)).toInt).toNat < (2147483647 - z16.2.2.1.toInt).toNat
            omega
          · skip
            have c68 := wt_nceq h63
            refine wt_T_bi (wq_md_worthOf n hn z16.2.2.1 r59 ri62) (fun r69 h70 => ?_)
            have e71 := h70
            have bb72 := wt_bd r69.1
            rw [e71]
            have bb73 := wt_bd z16.1
            refine wt_T_bi (wq_md_worthOf n hn z16.1 r59 ri62) (fun r74 h75 => ?_)
            have e76 := h75
            have bb77 := wt_bd r74.1
            rw [e76]
            refine wt_T_if (fun h78 => ?_) (fun h78 => ?_)
            · skip
              have c79 := wt_cle h78
              unfold wp_md_most_B106
              unfold wp_md_most_B107
              have bb80 := wt_bd z16.2.1
              obtain ⟨j81, j81a, j81b⟩ := wt_addI z16.2.1 (1 : Int32)
              obtain ⟨j82, j82a, j82b⟩ := wt_addI z16.2.2.1 (1 : Int32)
              refine hKK15 _ ⟨(wt_fr.tr (wt_fr.tr (wt_fr.tr (wt_fr.tr wt_fr.rf l18 (fun i k h => by (try dsimp only at h); exact (by first | exact h | omega)) (fun i h => by (try dsimp only at h); rcases h with h | h | h | h | h; exact Or.inl (by first | exact h | omega); exact Or.inr (Or.inl (by first | exact h | omega)); exact Or.inr (Or.inr (Or.inl (by first | exact h | omega))); exact Or.inr (Or.inr (Or.inr (Or.inl (by first | exact h | omega)))); exact Or.inr (Or.inr (Or.inr (Or.inr (by first | exact h | omega)))))) f49 (fun i k h => h.elim) (fun i h => by (try dsimp only at h); exact Or.inl (by first | exact h | omega))) f54 (fun i k h => by (try dsimp only at h); exact (by first | exact h | omega)) (fun i h => by (try dsimp only at h); rcases h with h | h | h | h; exact Or.inr (Or.inl (by first | exact h | omega)); exact Or.inr (Or.inr (Or.inl (by first | exact h | omega))); exact Or.inr (Or.inr (Or.inr (Or.inl (by first | exact h | omega)))); exact Or.inr (Or.inr (Or.inr (Or.inr (by first | exact h | omega)))))) f61 (fun i k h => h.elim) (fun i h => by (try dsimp only at h); exact Or.inr (Or.inr (Or.inr (Or.inr (by first | exact h | omega)))))), (show 0 ≤ ((z16.2.2.1 + (1 : Int32))).toInt by omega), ri62⟩ ?_
              show (2147483647 - (z16.2.2.1 + (1 : Int32)).toInt).toNat < (2147483647 - z16.2.2.1.toInt).toNat
              omega
            · skip
              have c83 := wt_ncle h78
              unfold wp_md_most_B106
              unfold wp_md_most_B107
              have bb84 := wt_bd z16.2.1
              obtain ⟨j85, j85a, j85b⟩ := wt_addI z16.2.1 (1 : Int32)
              obtain ⟨j86, j86a, j86b⟩ := wt_addI z16.2.2.1 (1 : Int32)
              refine hKK15 _ ⟨(wt_fr.tr (wt_fr.tr (wt_fr.tr (wt_fr.tr wt_fr.rf l18 (fun i k h => by (try dsimp only at h); exact (by first | exact h | omega)) (fun i h => by (try dsimp only at h); rcases h with h | h | h | h | h; exact Or.inl (by first | exact h | omega); exact Or.inr (Or.inl (by first | exact h | omega)); exact Or.inr (Or.inr (Or.inl (by first | exact h | omega))); exact Or.inr (Or.inr (Or.inr (Or.inl (by first | exact h | omega)))); exact Or.inr (Or.inr (Or.inr (Or.inr (by first | exact h | omega)))))) f49 (fun i k h => h.elim) (fun i h => by (try dsimp only at h); exact Or.inl (by first | exact h | omega))) f54 (fun i k h => by (try dsimp only at h); exact (by first | exact h | omega)) (fun i h => by (try dsimp only at h); rcases h with h | h | h | h; exact Or.inr (Or.inl (by first | exact h | omega)); exact Or.inr (Or.inr (Or.inl (by first | exact h | omega))); exact Or.inr (Or.inr (Or.inr (Or.inl (by first | exact h | omega)))); exact Or.inr (Or.inr (Or.inr (Or.inr (by first | exact h | omega)))))) f61 (fun i k h => h.elim) (fun i h => by (try dsimp only at h); exact Or.inr (Or.inr (Or.inr (Or.inr (by first | exact h | omega)))))), (show 0 ≤ ((z16.2.2.1 + (1 : Int32))).toInt by omega), ri62⟩ ?_
              show (2147483647 - (z16.2.2.1 + (1 : Int32)).toInt).toNat < (2147483647 - z16.2.2.1.toInt).toNat
              omega
        · skip
          have c87 := wt_nceq h57
          rw [wt_lm1] at c87
          unfold wp_md_most_B69
          refine wt_T_bi (wq_md_putsBack n hn r52.2 ri55) (fun r88 h89 => ?_)
          obtain ⟨f90, ri91⟩ := h89
          refine wt_T_if (fun h92 => ?_) (fun h92 => ?_)
          · skip
            have c93 := wt_ceq h92
            unfold wp_md_most_B107
            have bb94 := wt_bd z16.1
            have bb95 := wt_bd z16.2.1
            obtain ⟨j96, j96a, j96b⟩ := wt_addI z16.2.2.1 (1 : Int32)
            refine hKK15 _ ⟨(wt_fr.tr (wt_fr.tr (wt_fr.tr (wt_fr.tr wt_fr.rf l18 (fun i k h => by (try dsimp only at h); exact (by first | exact h | omega)) (fun i h => by (try dsimp only at h); rcases h with h | h | h | h | h; exact Or.inl (by first | exact h | omega); exact Or.inr (Or.inl (by first | exact h | omega)); exact Or.inr (Or.inr (Or.inl (by first | exact h | omega))); exact Or.inr (Or.inr (Or.inr (Or.inl (by first | exact h | omega)))); exact Or.inr (Or.inr (Or.inr (Or.inr (by first | exact h | omega)))))) f49 (fun i k h => h.elim) (fun i h => by (try dsimp only at h); exact Or.inl (by first | exact h | omega))) f54 (fun i k h => by (try dsimp only at h); exact (by first | exact h | omega)) (fun i h => by (try dsimp only at h); rcases h with h | h | h | h; exact Or.inr (Or.inl (by first | exact h | omega)); exact Or.inr (Or.inr (Or.inl (by first | exact h | omega))); exact Or.inr (Or.inr (Or.inr (Or.inl (by first | exact h | omega)))); exact Or.inr (Or.inr (Or.inr (Or.inr (by first | exact h | omega)))))) f90 (fun i k h => h.elim) (fun i h => by (try dsimp only at h); exact Or.inr (Or.inr (Or.inr (Or.inr (by first | exact h | omega)))))), (show 0 ≤ ((z16.2.2.1 + (1 : Int32))).toInt by omega), ri91⟩ ?_
            show (2147483647 - (z16.2.2.1 + (1 : Int32)).toInt).toNat < (2147483647 - z16.2.2.1.toInt).toNat
            omega
          · skip
            have c97 := wt_nceq h92
            refine wt_T_bi (wq_md_worthOf n hn z16.2.2.1 r88 ri91) (fun r98 h99 => ?_)
            have e100 := h99
            have bb101 := wt_bd r98.1
            rw [e100]
            have bb102 := wt_bd z16.1
            refine wt_T_bi (wq_md_worthOf n hn z16.1 r88 ri91) (fun r103 h104 => ?_)
            have e105 := h104
            have bb106 := wt_bd r103.1
            rw [e105]
            refine wt_T_if (fun h107 => ?_) (fun h107 => ?_)
            · skip
              have c108 := wt_cle h107
              unfold wp_md_most_B106
              unfold wp_md_most_B107
              have bb109 := wt_bd z16.2.1
              obtain ⟨j110, j110a, j110b⟩ := wt_addI z16.2.1 (1 : Int32)
              obtain ⟨j111, j111a, j111b⟩ := wt_addI z16.2.2.1 (1 : Int32)
              refine hKK15 _ ⟨(wt_fr.tr (wt_fr.tr (wt_fr.tr (wt_fr.tr wt_fr.rf l18 (fun i k h => by (try dsimp only at h); exact (by first | exact h | omega)) (fun i h => by (try dsimp only at h); rcases h with h | h | h | h | h; exact Or.inl (by first | exact h | omega); exact Or.inr (Or.inl (by first | exact h | omega)); exact Or.inr (Or.inr (Or.inl (by first | exact h | omega))); exact Or.inr (Or.inr (Or.inr (Or.inl (by first | exact h | omega)))); exact Or.inr (Or.inr (Or.inr (Or.inr (by first | exact h | omega)))))) f49 (fun i k h => h.elim) (fun i h => by (try dsimp only at h); exact Or.inl (by first | exact h | omega))) f54 (fun i k h => by (try dsimp only at h); exact (by first | exact h | omega)) (fun i h => by (try dsimp only at h); rcases h with h | h | h | h; exact Or.inr (Or.inl (by first | exact h | omega)); exact Or.inr (Or.inr (Or.inl (by first | exact h | omega))); exact Or.inr (Or.inr (Or.inr (Or.inl (by first | exact h | omega)))); exact Or.inr (Or.inr (Or.inr (Or.inr (by first | exact h | omega)))))) f90 (fun i k h => h.elim) (fun i h => by (try dsimp only at h); exact Or.inr (Or.inr (Or.inr (Or.inr (by first | exact h | omega)))))), (show 0 ≤ ((z16.2.2.1 + (1 : Int32))).toInt by omega), ri91⟩ ?_
              show (2147483647 - (z16.2.2.1 + (1 : Int32)).toInt).toNat < (2147483647 - z16.2.2.1.toInt).toNat
              omega
            · skip
              have c112 := wt_ncle h107
              unfold wp_md_most_B106
              unfold wp_md_most_B107
              have bb113 := wt_bd z16.2.1
              obtain ⟨j114, j114a, j114b⟩ := wt_addI z16.2.1 (1 : Int32)
              obtain ⟨j115, j115a, j115b⟩ := wt_addI z16.2.2.1 (1 : Int32)
              refine hKK15 _ ⟨(wt_fr.tr (wt_fr.tr (wt_fr.tr (wt_fr.tr wt_fr.rf l18 (fun i k h => by (try dsimp only at h); exact (by first | exact h | omega)) (fun i h => by (try dsimp only at h); rcases h with h | h | h | h | h; exact Or.inl (by first | exact h | omega); exact Or.inr (Or.inl (by first | exact h | omega)); exact Or.inr (Or.inr (Or.inl (by first | exact h | omega))); exact Or.inr (Or.inr (Or.inr (Or.inl (by first | exact h | omega)))); exact Or.inr (Or.inr (Or.inr (Or.inr (by first | exact h | omega)))))) f49 (fun i k h => h.elim) (fun i h => by (try dsimp only at h); exact Or.inl (by first | exact h | omega))) f54 (fun i k h => by (try dsimp only at h); exact (by first | exact h | omega)) (fun i h => by (try dsimp only at h); rcases h with h | h | h | h; exact Or.inr (Or.inl (by first | exact h | omega)); exact Or.inr (Or.inr (Or.inl (by first | exact h | omega))); exact Or.inr (Or.inr (Or.inr (Or.inl (by first | exact h | omega)))); exact Or.inr (Or.inr (Or.inr (Or.inr (by first | exact h | omega)))))) f90 (fun i k h => h.elim) (fun i h => by (try dsimp only at h); exact Or.inr (Or.inr (Or.inr (Or.inr (by first | exact h | omega)))))), (show 0 ≤ ((z16.2.2.1 + (1 : Int32))).toInt by omega), ri91⟩ ?_
              show (2147483647 - (z16.2.2.1 + (1 : Int32)).toInt).toNat < (2147483647 - z16.2.2.1.toInt).toNat
              omega
    · skip
      exact ⟨wt_fr.rf, (show 0 ≤ ((0 : Int32)).toInt by omega), ri7⟩
    · skip
      show (2147483647 - (0 : Int32).toInt).toNat < n
      omega
  · skip
    have c116 := wt_nceq h13
    refine wt_T_some ?_
    exact ⟨(wt_fr.tr wt_fr.rf f6 (fun i k h => by (try dsimp only at h); exact Or.inl (by first | exact h | omega)) (fun i h => h.elim)), ri7⟩
set_option maxRecDepth 100000 in
set_option maxHeartbeats 4000000 in
theorem wq_md_most (n : Nat) (hn : 4294967297 < n) (x1 : Int32) (σ : wt_St) (r0 : wt_RI σ) : wt_T (wp_md_most n x1 σ) (fun q => wt_fr (fun i k => (i = 108 ∧ k = 0) ∨ (i = 108 ∧ k = 54)) (fun i => i = 286 ∨ i = 287 ∨ i = 124 ∨ i = 288 ∨ i = 121) σ q.2 ∧ wt_RI q.2) := by
  have bb1 := wt_bd x1
  unfold wp_md_most
  obtain ⟨σ2, eσ2⟩ : ∃ z : wt_St, z = wt_sf σ 108 0 (0 : Int32) := ⟨_, rfl⟩
  rw [← eσ2]
  have fσ2 := wt_fr_sf eσ2
  have vσ2 := wt_ceq (wt_v_sf eσ2)
  have k3 : (0 : Int32).toInt = 0 := by decide
  have rσ2 := wt_RI_fno r0 eσ2 (Or.inr (by decide +kernel))
  have k4 : (2 : Int32).toInt = 2 := by decide
  refine wt_T_bi (wq_md_in n hn x1 (0 : Int32) (2 : Int32) σ2 rσ2) (fun r5 h6 => ?_)
  obtain ⟨e7, pp8⟩ := h6
  have bb9 := wt_bd r5.1
  rw [e7]
  refine wt_T_if (fun h10 => ?_) (fun h10 => ?_)
  · skip
    have c11 := wt_ceq h10
    have k12 : (1 : Int32).toInt = 1 := by decide
    refine wt_T.imp (wq_md_most_B20 n hn x1 (1 : Int32) σ2 rσ2) (fun r13 h14 => ?_)
    have bb15 := wt_bd r13.1
    obtain ⟨f16, ri17⟩ := h14
    exact ⟨(wt_fr.tr (wt_fr.tr wt_fr.rf fσ2 (fun i k h => by (try dsimp only at h); exact Or.inl (by first | exact h | omega)) (fun i h => h.elim)) f16 (fun i k h => by (try dsimp only at h); rcases h with h | h; exact Or.inl (by first | exact h | omega); exact Or.inr (by first | exact h | omega)) (fun i h => by (try dsimp only at h); rcases h with h | h | h | h | h; exact Or.inl (by first | exact h | omega); exact Or.inr (Or.inl (by first | exact h | omega)); exact Or.inr (Or.inr (Or.inl (by first | exact h | omega))); exact Or.inr (Or.inr (Or.inr (Or.inl (by first | exact h | omega)))); exact Or.inr (Or.inr (Or.inr (Or.inr (by first | exact h | omega)))))), ri17⟩
  · skip
    have c18 := wt_nceq h10
    refine wt_T.imp (wq_md_most_B20 n hn x1 (0 : Int32) σ2 rσ2) (fun r19 h20 => ?_)
    have bb21 := wt_bd r19.1
    obtain ⟨f22, ri23⟩ := h20
    exact ⟨(wt_fr.tr (wt_fr.tr wt_fr.rf fσ2 (fun i k h => by (try dsimp only at h); exact Or.inl (by first | exact h | omega)) (fun i h => h.elim)) f22 (fun i k h => by (try dsimp only at h); rcases h with h | h; exact Or.inl (by first | exact h | omega); exact Or.inr (by first | exact h | omega)) (fun i h => by (try dsimp only at h); rcases h with h | h | h | h | h; exact Or.inl (by first | exact h | omega); exact Or.inr (Or.inl (by first | exact h | omega)); exact Or.inr (Or.inr (Or.inl (by first | exact h | omega))); exact Or.inr (Or.inr (Or.inr (Or.inl (by first | exact h | omega)))); exact Or.inr (Or.inr (Or.inr (Or.inr (by first | exact h | omega)))))), ri23⟩
set_option maxRecDepth 100000 in
set_option maxHeartbeats 4000000 in
theorem wq_md_needs (n : Nat) (hn : 4294967297 < n) (x1 : Int32) (x2 : Int32) (σ : wt_St) (r0 : wt_RI σ) : wt_T (wp_md_needs n x1 x2 σ) (fun q => wt_fr (fun i k => (i = 108 ∧ k = 0)) (fun i => i = 287) σ q.2 ∧ wt_RI q.2) := by
  have bb1 := wt_bd x1
  have bb2 := wt_bd x2
  unfold wp_md_needs
  obtain ⟨σ3, eσ3⟩ : ∃ z : wt_St, z = wt_sf σ 108 0 (0 : Int32) := ⟨_, rfl⟩
  rw [← eσ3]
  have fσ3 := wt_fr_sf eσ3
  have vσ3 := wt_ceq (wt_v_sf eσ3)
  have k4 : (0 : Int32).toInt = 0 := by decide
  have rσ3 := wt_RI_fno r0 eσ3 (Or.inr (by decide +kernel))
  refine wt_T_bi (wq_md_isText n hn x1 σ3 rσ3) (fun r5 h6 => ?_)
  obtain ⟨e7, pp8⟩ := h6
  have bb9 := wt_bd r5.1
  rw [e7]
  have g11 : 0 ≤ (wt_gf σ3 108 39).toInt ∧ (wt_gf σ3 108 39).toInt ≤ 8 := wt_Rf7 rσ3
  have tt12 : (wt_gf σ3 108 39).toInt = (wt_gf σ 108 39).toInt := congrArg Int32.toInt (fσ3.1 108 39 (by (try dsimp only); omega))
  refine wt_T_if (fun h15 => ?_) (fun h15 => ?_)
  · skip
    have c16 := wt_ceq h15
    unfold wp_md_needs_B19
    have k17 : (1 : Int32).toInt = 1 := by decide
    refine wt_T_bi (wq_md_bad n hn (1 : Int32) (1 : Int32) σ3 rσ3 (by first | with_reducible assumption | omega)) (fun r18 h19 => ?_)
    obtain ⟨f20, ri21, pp22⟩ := h19
    have bb23 := wt_bd r18.1
    have bb24 := wt_bd (wt_gf r18.2 108 0)
    have bb25 := wt_bd (wt_gf σ3 108 0)
    refine wt_T_if (fun h26 => ?_) (fun h26 => ?_)
    · skip
      have c27 := wt_ceq h26
      refine wt_T_bi (wq_md_isLetter n hn x2 r18.2 ri21) (fun r28 h29 => ?_)
      obtain ⟨e30, pp31⟩ := h29
      have bb32 := wt_bd r28.1
      rw [e30]
      refine wt_T_if (fun h33 => ?_) (fun h33 => ?_)
      · skip
        have c34 := wt_ceq h33
        unfold wp_md_needs_B39
        have k35 : (2 : Int32).toInt = 2 := by decide
        refine wt_T_bi (wq_md_bad n hn (1 : Int32) (2 : Int32) r18.2 ri21 (by first | with_reducible assumption | omega)) (fun r36 h37 => ?_)
        obtain ⟨f38, ri39, pp40⟩ := h37
        have bb41 := wt_bd r36.1
        have bb42 := wt_bd (wt_gf r36.2 108 0)
        refine wt_T_if (fun h43 => ?_) (fun h43 => ?_)
        · skip
          have c44 := wt_ceq h43
          refine wt_T_bi (wq_md_needsText n hn x1 r36.2 ri39 (by first | with_reducible assumption | omega) (by first | with_reducible assumption | omega)) (fun r45 h46 => ?_)
          obtain ⟨f47, ri48, pp49⟩ := h46
          refine wt_T_gd (wt_ix (by first | with_reducible assumption | omega) (by first | with_reducible assumption | omega)) ?_
          refine wt_T_some ?_
          exact ⟨(wt_fr.tr (wt_fr.tr (wt_fr.tr (wt_fr.tr wt_fr.rf fσ3 (fun i k h => by (try dsimp only at h); exact (by first | exact h | omega)) (fun i h => h.elim)) f20 (fun i k h => by (try dsimp only at h); exact (by first | exact h | omega)) (fun i h => h.elim)) f38 (fun i k h => by (try dsimp only at h); exact (by first | exact h | omega)) (fun i h => h.elim)) f47 (fun i k h => h.elim) (fun i h => by (try dsimp only at h); exact (by first | exact h | omega))), ri48⟩
        · skip
          have c50 := wt_nceq h43
          refine wt_T_some ?_
          exact ⟨(wt_fr.tr (wt_fr.tr (wt_fr.tr wt_fr.rf fσ3 (fun i k h => by (try dsimp only at h); exact (by first | exact h | omega)) (fun i h => h.elim)) f20 (fun i k h => by (try dsimp only at h); exact (by first | exact h | omega)) (fun i h => h.elim)) f38 (fun i k h => by (try dsimp only at h); exact (by first | exact h | omega)) (fun i h => h.elim)), ri39⟩
      · skip
        have c51 := wt_nceq h33
        unfold wp_md_needs_B39
        have k52 : (2 : Int32).toInt = 2 := by decide
        refine wt_T_bi (wq_md_bad n hn (0 : Int32) (2 : Int32) r18.2 ri21 (by first | with_reducible assumption | omega)) (fun r53 h54 => ?_)
        obtain ⟨f55, ri56, pp57⟩ := h54
        have bb58 := wt_bd r53.1
        have bb59 := wt_bd (wt_gf r53.2 108 0)
        refine wt_T_if (fun h60 => ?_) (fun h60 => ?_)
        · skip
          have c61 := wt_ceq h60
          refine wt_T_bi (wq_md_needsText n hn x1 r53.2 ri56 (by first | with_reducible assumption | omega) (by first | with_reducible assumption | omega)) (fun r62 h63 => ?_)
          obtain ⟨f64, ri65, pp66⟩ := h63
          refine wt_T_gd (wt_ix (by first | with_reducible assumption | omega) (by first | with_reducible assumption | omega)) ?_
          refine wt_T_some ?_
          exact ⟨(wt_fr.tr (wt_fr.tr (wt_fr.tr (wt_fr.tr wt_fr.rf fσ3 (fun i k h => by (try dsimp only at h); exact (by first | exact h | omega)) (fun i h => h.elim)) f20 (fun i k h => by (try dsimp only at h); exact (by first | exact h | omega)) (fun i h => h.elim)) f55 (fun i k h => by (try dsimp only at h); exact (by first | exact h | omega)) (fun i h => h.elim)) f64 (fun i k h => h.elim) (fun i h => by (try dsimp only at h); exact (by first | exact h | omega))), ri65⟩
        · skip
          have c67 := wt_nceq h60
          refine wt_T_some ?_
          exact ⟨(wt_fr.tr (wt_fr.tr (wt_fr.tr wt_fr.rf fσ3 (fun i k h => by (try dsimp only at h); exact (by first | exact h | omega)) (fun i h => h.elim)) f20 (fun i k h => by (try dsimp only at h); exact (by first | exact h | omega)) (fun i h => h.elim)) f55 (fun i k h => by (try dsimp only at h); exact (by first | exact h | omega)) (fun i h => h.elim)), ri56⟩
    · skip
      have c68 := wt_nceq h26
      refine wt_T_some ?_
      exact ⟨(wt_fr.tr (wt_fr.tr wt_fr.rf fσ3 (fun i k h => by (try dsimp only at h); exact (by first | exact h | omega)) (fun i h => h.elim)) f20 (fun i k h => by (try dsimp only at h); exact (by first | exact h | omega)) (fun i h => h.elim)), ri21⟩
  · skip
    have c69 := wt_nceq h15
    unfold wp_md_needs_B19
    have k70 : (1 : Int32).toInt = 1 := by decide
    refine wt_T_bi (wq_md_bad n hn (0 : Int32) (1 : Int32) σ3 rσ3 (by first | with_reducible assumption | omega)) (fun r71 h72 => ?_)
    obtain ⟨f73, ri74, pp75⟩ := h72
    have bb76 := wt_bd r71.1
    have bb77 := wt_bd (wt_gf r71.2 108 0)
    have bb78 := wt_bd (wt_gf σ3 108 0)
    refine wt_T_if (fun h79 => ?_) (fun h79 => ?_)
    · skip
      have c80 := wt_ceq h79
      refine wt_T_bi (wq_md_isLetter n hn x2 r71.2 ri74) (fun r81 h82 => ?_)
      obtain ⟨e83, pp84⟩ := h82
      have bb85 := wt_bd r81.1
      rw [e83]
      refine wt_T_if (fun h86 => ?_) (fun h86 => ?_)
      · skip
        have c87 := wt_ceq h86
        unfold wp_md_needs_B39
        have k88 : (2 : Int32).toInt = 2 := by decide
        refine wt_T_bi (wq_md_bad n hn (1 : Int32) (2 : Int32) r71.2 ri74 (by first | with_reducible assumption | omega)) (fun r89 h90 => ?_)
        obtain ⟨f91, ri92, pp93⟩ := h90
        have bb94 := wt_bd r89.1
        have bb95 := wt_bd (wt_gf r89.2 108 0)
        refine wt_T_if (fun h96 => ?_) (fun h96 => ?_)
        · skip
          have c97 := wt_ceq h96
          refine wt_T_bi (wq_md_needsText n hn x1 r89.2 ri92 (by first | with_reducible assumption | omega) (by first | with_reducible assumption | omega)) (fun r98 h99 => ?_)
          obtain ⟨f100, ri101, pp102⟩ := h99
          refine wt_T_gd (wt_ix (by first | with_reducible assumption | omega) (by first | with_reducible assumption | omega)) ?_
          refine wt_T_some ?_
          exact ⟨(wt_fr.tr (wt_fr.tr (wt_fr.tr (wt_fr.tr wt_fr.rf fσ3 (fun i k h => by (try dsimp only at h); exact (by first | exact h | omega)) (fun i h => h.elim)) f73 (fun i k h => by (try dsimp only at h); exact (by first | exact h | omega)) (fun i h => h.elim)) f91 (fun i k h => by (try dsimp only at h); exact (by first | exact h | omega)) (fun i h => h.elim)) f100 (fun i k h => h.elim) (fun i h => by (try dsimp only at h); exact (by first | exact h | omega))), ri101⟩
        · skip
          have c103 := wt_nceq h96
          refine wt_T_some ?_
          exact ⟨(wt_fr.tr (wt_fr.tr (wt_fr.tr wt_fr.rf fσ3 (fun i k h => by (try dsimp only at h); exact (by first | exact h | omega)) (fun i h => h.elim)) f73 (fun i k h => by (try dsimp only at h); exact (by first | exact h | omega)) (fun i h => h.elim)) f91 (fun i k h => by (try dsimp only at h); exact (by first | exact h | omega)) (fun i h => h.elim)), ri92⟩
      · skip
        have c104 := wt_nceq h86
        unfold wp_md_needs_B39
        have k105 : (2 : Int32).toInt = 2 := by decide
        refine wt_T_bi (wq_md_bad n hn (0 : Int32) (2 : Int32) r71.2 ri74 (by first | with_reducible assumption | omega)) (fun r106 h107 => ?_)
        obtain ⟨f108, ri109, pp110⟩ := h107
        have bb111 := wt_bd r106.1
        have bb112 := wt_bd (wt_gf r106.2 108 0)
        refine wt_T_if (fun h113 => ?_) (fun h113 => ?_)
        · skip
          have c114 := wt_ceq h113
          refine wt_T_bi (wq_md_needsText n hn x1 r106.2 ri109 (by first | with_reducible assumption | omega) (by first | with_reducible assumption | omega)) (fun r115 h116 => ?_)
          obtain ⟨f117, ri118, pp119⟩ := h116
          refine wt_T_gd (wt_ix (by first | with_reducible assumption | omega) (by first | with_reducible assumption | omega)) ?_
          refine wt_T_some ?_
          exact ⟨(wt_fr.tr (wt_fr.tr (wt_fr.tr (wt_fr.tr wt_fr.rf fσ3 (fun i k h => by (try dsimp only at h); exact (by first | exact h | omega)) (fun i h => h.elim)) f73 (fun i k h => by (try dsimp only at h); exact (by first | exact h | omega)) (fun i h => h.elim)) f108 (fun i k h => by (try dsimp only at h); exact (by first | exact h | omega)) (fun i h => h.elim)) f117 (fun i k h => h.elim) (fun i h => by (try dsimp only at h); exact (by first | exact h | omega))), ri118⟩
        · skip
          have c120 := wt_nceq h113
          refine wt_T_some ?_
          exact ⟨(wt_fr.tr (wt_fr.tr (wt_fr.tr wt_fr.rf fσ3 (fun i k h => by (try dsimp only at h); exact (by first | exact h | omega)) (fun i h => h.elim)) f73 (fun i k h => by (try dsimp only at h); exact (by first | exact h | omega)) (fun i h => h.elim)) f108 (fun i k h => by (try dsimp only at h); exact (by first | exact h | omega)) (fun i h => h.elim)), ri109⟩
    · skip
      have c121 := wt_nceq h79
      refine wt_T_some ?_
      exact ⟨(wt_fr.tr (wt_fr.tr wt_fr.rf fσ3 (fun i k h => by (try dsimp only at h); exact (by first | exact h | omega)) (fun i h => h.elim)) f73 (fun i k h => by (try dsimp only at h); exact (by first | exact h | omega)) (fun i h => h.elim)), ri74⟩
set_option maxRecDepth 100000 in
set_option maxHeartbeats 4000000 in
theorem wq_md_ones (n : Nat) (hn : 4294967297 < n) (x0 : Int32) (σ : wt_St) (r0 : wt_RI σ) : wt_T (wp_md_ones n x0 σ) (fun q => q.2 = σ) := by
  have bb1 := wt_bd x0
  unfold wp_md_ones
  have k7 : (0 : Int32).toInt = 0 := by decide
  refine wt_T_it (fun s : Int32 × Int32 × wt_St => s.2.2 = σ ∧ 0 ≤ (s.2.1).toInt) (fun s : Int32 × Int32 × wt_St => ((16 : Int32).toInt - s.2.1.toInt + 0).toNat) (fun KK2 z3 I4 hKK2 => ?_) _ _ ?_ ?_
  · skip
    obtain ⟨l5, l6⟩ := I4
    unfold wp_md_ones_B4
    rw [l5]
    have k8 : (16 : Int32).toInt = 16 := by decide
    have bb9 := wt_bd z3.2.1
    refine wt_T_if (fun h10 => ?_) (fun h10 => ?_)
    · skip
      have c11 := wt_cle h10
      refine wt_T_some ?_
      exact rfl
    · skip
      have c12 := wt_ncle h10
      have bb13 := wt_bd z3.1
      have k14 : (31 : Int32).toInt = 31 := by decide
      have bb15 := wt_bd (z3.2.1 &&& 31)
      have bb16 := wt_bd (x0 >>> (z3.2.1 &&& 31))
      have k17 : (1 : Int32).toInt = 1 := by decide
      have bb18 := wt_bd ((x0 >>> (z3.2.1 &&& 31)) &&& (1 : Int32))
      obtain ⟨j19, j19a, j19b⟩ := wt_addI z3.1 ((x0 >>> (z3.2.1 &&& 31)) &&& (1 : Int32))
      refine hKK2 _ ⟨rfl, (wt_nn (B := (16 : Int32)) (by first | with_reducible assumption | omega) (by first | (rw [l5]; omega) | (rw [l5]; done) | omega))⟩ ?_
      show ((16 : Int32).toInt - (z3.2.1 + (1 : Int32)).toInt + 0).toNat < ((16 : Int32).toInt - z3.2.1.toInt + 0).toNat
      exact wt_mu (by first | (rw [l5]; omega) | (rw [l5]; done) | omega) (by first | (rw [l5]; omega) | (rw [l5]; done) | omega)
  · skip
    have k20 : (16 : Int32).toInt = 16 := by decide
    exact ⟨rfl, (show 0 ≤ ((0 : Int32)).toInt by omega)⟩
  · skip
    have k21 : (16 : Int32).toInt = 16 := by decide
    show ((16 : Int32).toInt - (0 : Int32).toInt + 0).toNat < n
    omega
set_option maxRecDepth 100000 in
set_option maxHeartbeats 4000000 in
theorem wq_md_pieceOn (n : Nat) (hn : 4294967297 < n) (x1 : Int32) (x2 : Int32) (x3 : Int32) (σ : wt_St) (r0 : wt_RI σ) (p0 : 0 ≤ x1.toInt) (p1 : x1.toInt ≤ 3) : wt_T (wp_md_pieceOn n x1 x2 x3 σ) (fun q => q.2 = σ) := by
  have bb1 := wt_bd x1
  have bb2 := wt_bd x2
  have bb3 := wt_bd x3
  unfold wp_md_pieceOn
  have k9 : (0 : Int32).toInt = 0 := by decide
  refine wt_T_it (fun s : Int32 × Int32 × wt_St => s.2.2 = σ ∧ 0 ≤ (s.2.1).toInt) (fun s : Int32 × Int32 × wt_St => ((wt_ga s.2.2 276 (Int32.toNatClampNeg x1)).toInt - s.2.1.toInt + 0).toNat) (fun KK4 z5 I6 hKK4 => ?_) _ _ ?_ ?_
  · skip
    obtain ⟨l7, l8⟩ := I6
    unfold wp_md_pieceOn_B6
    rw [l7]
    have bb10 := wt_tn x1
    have g12 : 0 ≤ (wt_ga σ 276 (Int32.toNatClampNeg x1)).toInt ∧ (wt_ga σ 276 (Int32.toNatClampNeg x1)).toInt ≤ 108 := wt_Ra13 r0 276 (by decide) (by decide) (Int32.toNatClampNeg x1)
    have bb13 := wt_bd z5.2.1
    refine wt_T_gd (wt_ix (by first | with_reducible assumption | omega) (by first | with_reducible assumption | omega)) ?_
    refine wt_T_if (fun h14 => ?_) (fun h14 => ?_)
    · skip
      have c15 := wt_cle h14
      refine wt_T_some ?_
      exact rfl
    · skip
      have c16 := wt_ncle h14
      refine wt_T_gd (wt_ix (by first | with_reducible assumption | omega) (by first | with_reducible assumption | omega)) ?_
      refine wt_T_gd (wt_ix (by first | with_reducible assumption | omega) (by first | with_reducible assumption | omega)) ?_
      have bb17 := wt_tn z5.2.1
      have g19 : 0 ≤ (wt_ga σ (278 + (Int32.toNatClampNeg x1)) (Int32.toNatClampNeg z5.2.1)).toInt ∧ (wt_ga σ (278 + (Int32.toNatClampNeg x1)) (Int32.toNatClampNeg z5.2.1)).toInt ≤ 337 := wt_Ra14 r0 (278 + (Int32.toNatClampNeg x1)) (show 278 ≤ 278 + (Int32.toNatClampNeg x1) by omega) (show 278 + (Int32.toNatClampNeg x1) < 282 by omega) (Int32.toNatClampNeg z5.2.1)
      have k20 : (13 : Int32).toInt = 13 := by decide
      have bb21 := wt_bd ((wt_ga σ (278 + (Int32.toNatClampNeg x1)) (Int32.toNatClampNeg z5.2.1)) / (13 : Int32))
      have dv22 : ((wt_ga σ (278 + (Int32.toNatClampNeg x1)) (Int32.toNatClampNeg z5.2.1)) / (13 : Int32)).toInt = (wt_ga σ (278 + (Int32.toNatClampNeg x1)) (Int32.toNatClampNeg z5.2.1)).toInt / 13 := (wt_divI (x := wt_ga σ (278 + (Int32.toNatClampNeg x1)) (Int32.toNatClampNeg z5.2.1)) (y := (13 : Int32)) (by first | with_reducible assumption | omega) (by first | with_reducible assumption | omega)).trans (by rw [show (13 : Int32).toInt = 13 from by decide])
      refine wt_T_if (fun h23 => ?_) (fun h23 => ?_)
      · skip
        have c24 := wt_ceq h23
        have bb25 := wt_bd z5.1
        refine wt_T_if (fun h26 => ?_) (fun h26 => ?_)
        · skip
          have c27 := wt_ceq h26
          refine wt_T_gd (wt_ix (by first | with_reducible assumption | omega) (by first | with_reducible assumption | omega)) ?_
          refine wt_T_gd (wt_ix (by first | with_reducible assumption | omega) (by first | with_reducible assumption | omega)) ?_
          refine wt_T_some ?_
          exact rfl
        · skip
          have c28 := wt_nceq h26
          unfold wp_md_pieceOn_B55
          have k29 : (1 : Int32).toInt = 1 := by decide
          obtain ⟨j30, j30a, j30b⟩ := wt_addI z5.1 (1 : Int32)
          refine hKK4 _ ⟨rfl, (wt_nn (B := wt_ga z5.2.2 276 (Int32.toNatClampNeg x1)) (by first | with_reducible assumption | omega) (by first | (rw [l7]; omega) | (rw [l7]; done) | omega))⟩ ?_
          show ((wt_ga σ 276 (Int32.toNatClampNeg x1)).toInt - (z5.2.1 + (1 : Int32)).toInt + 0).toNat < ((wt_ga z5.2.2 276 (Int32.toNatClampNeg x1)).toInt - z5.2.1.toInt + 0).toNat
          exact wt_mu (by first | (rw [l7]; omega) | (rw [l7]; done) | omega) (by first | (rw [l7]; omega) | (rw [l7]; done) | omega)
      · skip
        have c31 := wt_nceq h23
        unfold wp_md_pieceOn_B55
        have bb32 := wt_bd z5.1
        refine hKK4 _ ⟨rfl, (wt_nn (B := wt_ga z5.2.2 276 (Int32.toNatClampNeg x1)) (by first | with_reducible assumption | omega) (by first | (rw [l7]; omega) | (rw [l7]; done) | omega))⟩ ?_
        show ((wt_ga σ 276 (Int32.toNatClampNeg x1)).toInt - (z5.2.1 + (1 : Int32)).toInt + 0).toNat < ((wt_ga z5.2.2 276 (Int32.toNatClampNeg x1)).toInt - z5.2.1.toInt + 0).toNat
        exact wt_mu (by first | (rw [l7]; omega) | (rw [l7]; done) | omega) (by first | (rw [l7]; omega) | (rw [l7]; done) | omega)
  · skip
    have bb33 := wt_tn x1
    have g35 : 0 ≤ (wt_ga σ 276 (Int32.toNatClampNeg x1)).toInt ∧ (wt_ga σ 276 (Int32.toNatClampNeg x1)).toInt ≤ 108 := wt_Ra13 r0 276 (by decide) (by decide) (Int32.toNatClampNeg x1)
    exact ⟨rfl, (show 0 ≤ ((0 : Int32)).toInt by omega)⟩
  · skip
    have bb36 := wt_tn x1
    have g38 : 0 ≤ (wt_ga σ 276 (Int32.toNatClampNeg x1)).toInt ∧ (wt_ga σ 276 (Int32.toNatClampNeg x1)).toInt ≤ 108 := wt_Ra13 r0 276 (by decide) (by decide) (Int32.toNatClampNeg x1)
    show ((wt_ga σ 276 (Int32.toNatClampNeg x1)).toInt - (0 : Int32).toInt + 0).toNat < n
    omega
set_option maxRecDepth 100000 in
set_option maxHeartbeats 4000000 in
theorem wq_md_pieceOnP (n : Nat) (hn : 4294967297 < n) (x1 : Int32) (x2 : Int32) (x3 : Int32) (σ : wt_St) (r0 : wt_RI σ) (p0 : 0 ≤ x1.toInt) (p1 : x1.toInt ≤ 3) (p2 : 0 ≤ x3.toInt) (p3 : x3.toInt < wt_pc σ (Int32.toNatClampNeg x1) x2.toInt) : wt_T (wp_md_pieceOn n x1 x2 x3 σ) (fun q => q.2 = σ ∧ 0 ≤ q.1.toInt ∧ q.1.toInt ≤ 337) := by
  unfold wp_md_pieceOn
  have k0 : (0 : Int32).toInt = 0 := by decide
  have k13 : (13 : Int32).toInt = 13 := by decide
  have hx := wt_tnI p0
  have gm : 0 ≤ (wt_ga σ 276 (Int32.toNatClampNeg x1)).toInt ∧ (wt_ga σ 276 (Int32.toNatClampNeg x1)).toInt ≤ 108 := wt_Ra13 r0 276 (by decide) (by decide) _
  refine wt_T_it (fun s : Int32 × Int32 × wt_St => s.2.2 = σ ∧ 0 ≤ s.2.1.toInt ∧ s.2.1.toInt ≤ (wt_ga σ 276 (Int32.toNatClampNeg x1)).toInt ∧ s.1.toInt ≤ x3.toInt ∧ s.1.toInt = wt_ct (fun k => (wt_ga σ (278 + Int32.toNatClampNeg x1) k).toInt / 13) x2.toInt (Int32.toNatClampNeg s.2.1)) (fun s => ((wt_ga σ 276 (Int32.toNatClampNeg x1)).toInt - s.2.1.toInt).toNat) (fun K z hI hK => ?_) n _ ?_ ?_
  · obtain ⟨e, l1, l2, l4, l3⟩ := hI
    unfold wp_md_pieceOn_B6
    rw [e]
    refine wt_T_gd (wt_ix (by first | with_reducible assumption | omega) (by first | with_reducible assumption | omega)) ?_
    refine wt_T_if (fun h => ?_) (fun h => ?_)
    · have c := wt_cle h
      have e2 : z.2.1 = wt_ga σ 276 (Int32.toNatClampNeg x1) := wt_eqI (by first | with_reducible assumption | omega)
      exfalso
      unfold wt_pc at p3
      rw [← e2] at p3
      omega
    · have c := wt_ncle h
      have et := wt_tnI l1
      have ei := wt_i1 (c := z.2.1) (by first | with_reducible assumption | omega)
      have gc : 0 ≤ (wt_ga σ (278 + Int32.toNatClampNeg x1) (Int32.toNatClampNeg z.2.1)).toInt ∧ (wt_ga σ (278 + Int32.toNatClampNeg x1) (Int32.toNatClampNeg z.2.1)).toInt ≤ 337 := wt_Ra14 r0 (278 + Int32.toNatClampNeg x1) (show 278 ≤ 278 + Int32.toNatClampNeg x1 by omega) (show 278 + Int32.toNatClampNeg x1 < 282 by omega) _
      have ed := wt_divI (x := wt_ga σ (278 + Int32.toNatClampNeg x1) (Int32.toNatClampNeg z.2.1)) (y := (13 : Int32)) gc.1 (by first | with_reducible assumption | omega)
      rw [k13] at ed
      have hb := wt_ct_bd (fun k => (wt_ga σ (278 + Int32.toNatClampNeg x1) k).toInt / 13) x2.toInt (Int32.toNatClampNeg z.2.1)
      have step : ∀ y : Int32, y.toInt ≤ x3.toInt → y.toInt = wt_ct (fun k => (wt_ga σ (278 + Int32.toNatClampNeg x1) k).toInt / 13) x2.toInt (Int32.toNatClampNeg z.2.1) + (if (wt_ga σ (278 + Int32.toNatClampNeg x1) (Int32.toNatClampNeg z.2.1)).toInt / 13 = x2.toInt then 1 else 0) → wt_T (K (y, z.2.1 + (1 : Int32), σ)) (fun q => q.2 = σ ∧ 0 ≤ q.1.toInt ∧ q.1.toInt ≤ 337) := by
        intro y hy1 hy2
        refine hK _ ⟨rfl, (show 0 ≤ (z.2.1 + (1 : Int32)).toInt by omega), (show (z.2.1 + (1 : Int32)).toInt ≤ (wt_ga σ 276 (Int32.toNatClampNeg x1)).toInt by omega), hy1, ?_⟩ (show ((wt_ga σ 276 (Int32.toNatClampNeg x1)).toInt - (z.2.1 + (1 : Int32)).toInt).toNat < ((wt_ga σ 276 (Int32.toNatClampNeg x1)).toInt - z.2.1.toInt).toNat by omega)
        show y.toInt = wt_ct (fun k => (wt_ga σ (278 + Int32.toNatClampNeg x1) k).toInt / 13) x2.toInt (Int32.toNatClampNeg (z.2.1 + (1 : Int32)))
        rw [wt_tn_i1 l1 (by first | with_reducible assumption | omega), hy2]
        rfl
      refine wt_T_gd (wt_ix (by first | with_reducible assumption | omega) (by first | with_reducible assumption | omega)) ?_
      refine wt_T_gd (wt_ix (by first | with_reducible assumption | omega) (by first | with_reducible assumption | omega)) ?_
      refine wt_T_if (fun h4 => ?_) (fun h4 => ?_)
      · have c4 := wt_ceq h4
        rw [ed] at c4
        refine wt_T_if (fun h5 => ?_) (fun h5 => ?_)
        · refine wt_T_gd (wt_ix (by first | with_reducible assumption | omega) (by first | with_reducible assumption | omega)) ?_
          refine wt_T_gd (wt_ix (by first | with_reducible assumption | omega) (by first | with_reducible assumption | omega)) ?_
          exact wt_T_some ⟨rfl, gc⟩
        · have c5 := wt_nceq h5
          have ej := wt_i1 (c := z.1) (by first | with_reducible assumption | omega)
          unfold wp_md_pieceOn_B55
          exact step _ (by first | with_reducible assumption | omega) (by rw [if_pos c4]; omega)
      · have c4 := wt_nceq h4
        rw [ed] at c4
        unfold wp_md_pieceOn_B55
        exact step _ l4 (by rw [if_neg c4]; omega)
  · refine ⟨rfl, (show 0 ≤ (0 : Int32).toInt by omega), (show (0 : Int32).toInt ≤ (wt_ga σ 276 (Int32.toNatClampNeg x1)).toInt by omega), (show (0 : Int32).toInt ≤ x3.toInt by omega), ?_⟩
    show (0 : Int32).toInt = wt_ct (fun k => (wt_ga σ (278 + Int32.toNatClampNeg x1) k).toInt / 13) x2.toInt (Int32.toNatClampNeg (0 : Int32))
    rw [wt_tn0]
    exact k0
  · show ((wt_ga σ 276 (Int32.toNatClampNeg x1)).toInt - (0 : Int32).toInt).toNat < n
    omega
set_option maxRecDepth 100000 in
set_option maxHeartbeats 4000000 in
theorem wq_md_readOf_words (n : Nat) (hn : 4294967297 < n) (x4 : Int32) (σ : wt_St) (r0 : wt_RI σ) (h9 : x4.toInt ≤ 9) : wt_T (wt_it (wp_md_readOf_B179 n x4) n ((0 : Int32), σ)) (fun q => q.2 = σ) := by
  have k0 : (0 : Int32).toInt = 0 := by decide
  have gw : 0 ≤ (wt_gf σ 108 28).toInt ∧ (wt_gf σ 108 28).toInt ≤ 60 := wt_Rf6 r0
  refine wt_T_it (fun s : Int32 × wt_St => s.2 = σ ∧ 0 ≤ s.1.toInt) (fun s => (60 - s.1.toInt).toNat) (fun K z hI hK => ?_) n _ ?_ ?_
  · obtain ⟨e, l1⟩ := hI
    unfold wp_md_readOf_B179
    rw [e]
    refine wt_T_if (fun h => wt_T_some rfl) (fun h => ?_)
    have c := wt_ncle h
    have ei := wt_i1 (c := z.1) (by first | with_reducible assumption | omega)
    have inner : ∀ y0 : Int32, wt_T (wp_md_readOf_B205 n x4 z.1 K y0 σ) (fun q => q.2 = σ) := by
      intro y0
      unfold wp_md_readOf_B205
      refine wt_T_it (fun s : Int32 × Int32 × wt_St => s.2.2 = σ ∧ 0 ≤ s.2.1.toInt) (fun s => (9 - s.2.1.toInt).toNat) (fun K2 y hJ hK2 => ?_) n _ ?_ ?_
      · obtain ⟨e', m1⟩ := hJ
        unfold wp_md_readOf_B210
        rw [e']
        have fin : ∀ fl : Int32, wt_T (wp_md_readOf_B255 n x4 z.1 fl K σ) (fun q => q.2 = σ) := by
          intro fl
          unfold wp_md_readOf_B255
          refine wt_T_if (fun _ => ?_) (fun _ => wt_T_some rfl)
          exact hK _ ⟨rfl, (show 0 ≤ (z.1 + (1 : Int32)).toInt by omega)⟩ (show (60 - (z.1 + (1 : Int32)).toInt).toNat < (60 - z.1.toInt).toNat by omega)
        refine wt_T_if (fun _ => fin _) (fun h2 => ?_)
        refine wt_T_if (fun _ => fin _) (fun _ => ?_)
        have c2 := wt_ncle h2
        have ej := wt_i1 (c := y.2.1) (by first | with_reducible assumption | omega)
        refine wt_T_gd (wt_ix (by first | with_reducible assumption | omega) (by first | with_reducible assumption | omega)) ?_
        refine wt_T_gd (wt_ix (by first | with_reducible assumption | omega) (by first | with_reducible assumption | omega)) ?_
        refine wt_T_gd (wt_ix (by first | with_reducible assumption | omega) (by first | with_reducible assumption | omega)) ?_
        have go : ∀ v : Int32, wt_T (wp_md_readOf_B247 n x4 z.1 y.2.1 K K2 v σ) (fun q => q.2 = σ) := by
          intro v
          unfold wp_md_readOf_B247
          exact hK2 _ ⟨rfl, (show 0 ≤ (y.2.1 + (1 : Int32)).toInt by omega)⟩ (show (9 - (y.2.1 + (1 : Int32)).toInt).toNat < (9 - y.2.1.toInt).toNat by omega)
        exact wt_T_if (fun _ => go _) (fun _ => go _)
      · exact ⟨rfl, (show 0 ≤ (0 : Int32).toInt by omega)⟩
      · show (9 - (0 : Int32).toInt).toNat < n
        omega
    refine wt_T_gd (wt_ix (by first | with_reducible assumption | omega) (by first | with_reducible assumption | omega)) ?_
    exact wt_T_if (fun _ => inner _) (fun _ => inner _)
  · exact ⟨rfl, (show 0 ≤ (0 : Int32).toInt by omega)⟩
  · show (60 - (0 : Int32).toInt).toNat < n
    omega
set_option maxRecDepth 100000 in
set_option maxHeartbeats 4000000 in
theorem wq_md_readOf (n : Nat) (hn : 4294967297 < n) (x1 : Int32) (x2 : Int32) (σ : wt_St) (r0 : wt_RI σ) (p0 : 0 ≤ x1.toInt) (p1 : x1.toInt ≤ 3) (p2 : (wt_ga σ 275 (Int32.toNatClampNeg x1)).toInt ≠ -1) (p3 : 0 ≤ x2.toInt) (p4 : x2.toInt < (wt_ga σ 253 (Int32.toNatClampNeg (wt_ga σ 275 (Int32.toNatClampNeg x1)))).toInt) (p5 : wt_PG σ) : wt_T (wp_md_readOf n x1 x2 σ) (fun q => wt_fr (fun i k => False) (fun i => i = 290 ∨ i = 289) σ q.2 ∧ wt_RI q.2) := by
  unfold wp_md_readOf
  have k0 : (0 : Int32).toInt = 0 := by decide
  have k26 : (26 : Int32).toInt = 26 := by decide
  have hx := wt_tnI p0
  have hx2 := wt_tnI p3
  have gt : -1 ≤ (wt_ga σ 275 (Int32.toNatClampNeg x1)).toInt ∧ (wt_ga σ 275 (Int32.toNatClampNeg x1)).toInt ≤ 7 := wt_Ra12 r0 275 (by decide) (by decide) _
  have pg := (p5 (Int32.toNatClampNeg x1) (by first | with_reducible assumption | omega) p2).2
  refine wt_T_gd (wt_ix (by first | with_reducible assumption | omega) (by first | with_reducible assumption | omega)) ?_
  generalize wt_ga σ 275 (Int32.toNatClampNeg x1) = t at *
  have ht := wt_tnI (x := t) (by first | with_reducible assumption | omega)
  have gl : 0 ≤ (wt_ga σ 253 (Int32.toNatClampNeg t)).toInt ∧ (wt_ga σ 253 (Int32.toNatClampNeg t)).toInt ≤ 12 := wt_Ra9 r0 253 (by decide) (by decide) _
  have hgl := wt_tnI gl.1
  have gw : ∀ i, 0 ≤ (wt_ga σ (255 + Int32.toNatClampNeg t) i).toInt ∧ (wt_ga σ (255 + Int32.toNatClampNeg t) i).toInt ≤ 59 := fun i => wt_Ra10 r0 (255 + Int32.toNatClampNeg t) (show 255 ≤ 255 + Int32.toNatClampNeg t by omega) (show 255 + Int32.toNatClampNeg t < 263 by omega) i
  have gn : ∀ w, 0 ≤ (wt_ga σ 126 w).toInt ∧ (wt_ga σ 126 w).toInt ≤ 9 := fun w => wt_Ra5 r0 126 (by decide) (by decide) w
  refine wt_T_it (fun s : Int32 × wt_St => wt_fr (fun i k => False) (fun i => i = 290 ∨ i = 289) σ s.2 ∧ wt_RI s.2 ∧ 0 ≤ s.1.toInt ∧ ∀ l : Nat, (l : Int) < s.1.toInt → (wt_ga s.2 290 l).toInt = 0) (fun s => (26 - s.1.toInt).toNat) (fun K10 z hI hK10 => ?_) n _ ?_ ?_
  · obtain ⟨fz, rz, l1, l2⟩ := hI
    unfold wp_md_readOf_B10
    refine wt_T_if (fun h => ?_) (fun h => ?_)
    · have c := wt_cle h
      refine wt_T_it (fun s : Int32 × wt_St => wt_fr (fun i k => False) (fun i => i = 290 ∨ i = 289) σ s.2 ∧ wt_RI s.2 ∧ 0 ≤ s.1.toInt ∧ s.1.toInt ≤ x2.toInt + 1 ∧ ∀ l : Nat, l < 26 → (wt_ga s.2 290 l).toInt = wt_sum (fun k => wt_nw σ (Int32.toNatClampNeg (wt_ga σ (255 + Int32.toNatClampNeg t) k)) l) (Int32.toNatClampNeg s.1)) (fun s => (x2.toInt + 1 - s.1.toInt).toNat) (fun K34 y hJ hK34 => ?_) n _ ?_ ?_
      · obtain ⟨fy, ry, m1, m2, m3⟩ := hJ
        have t255 : ∀ i, wt_ga y.2 (255 + Int32.toNatClampNeg t) i = wt_ga σ (255 + Int32.toNatClampNeg t) i := fy.2 (255 + Int32.toNatClampNeg t) (by first | with_reducible assumption | omega)
        have t126 : ∀ i, wt_ga y.2 126 i = wt_ga σ 126 i := fy.2 126 (by first | with_reducible assumption | omega)
        have em := wt_tnI m1
        unfold wp_md_readOf_B34
        refine wt_T_if (fun h2 => ?_) (fun h2 => ?_)
        · rw [t255, t126]
          have g1 := gw (Int32.toNatClampNeg x2)
          have g2 := gn (Int32.toNatClampNeg (wt_ga σ (255 + Int32.toNatClampNeg t) (Int32.toNatClampNeg x2)))
          refine wt_T_gd (wt_ix (by first | with_reducible assumption | omega) (by first | with_reducible assumption | omega)) ?_
          refine wt_T_gd (wt_ix (by first | with_reducible assumption | omega) (by first | with_reducible assumption | omega)) ?_
          refine wt_T_gd (wt_ix (by first | with_reducible assumption | omega) (by first | with_reducible assumption | omega)) ?_
          exact wt_T.imp (wq_md_readOf_words n hn _ y.2 ry g2.2) (fun q hq => by rw [hq]; exact ⟨fy, ry⟩)
        · have c2 := wt_ncl h2
          have ei := wt_i1 (c := y.1) (by first | with_reducible assumption | omega)
          refine wt_T_gd (wt_ix (by first | with_reducible assumption | omega) (by first | with_reducible assumption | omega)) ?_
          refine wt_T_gd (wt_ix (by first | with_reducible assumption | omega) (by first | with_reducible assumption | omega)) ?_
          rw [t255]
          have g1 := gw (Int32.toNatClampNeg y.1)
          have hS : ∀ l : Int, 0 ≤ l → l < 26 → wt_sum (fun k => wt_nw σ (Int32.toNatClampNeg (wt_ga σ (255 + Int32.toNatClampNeg t) k)) l) (Int32.toNatClampNeg y.1) + wt_nw σ (Int32.toNatClampNeg (wt_ga σ (255 + Int32.toNatClampNeg t) (Int32.toNatClampNeg y.1))) l ≤ wt_pc σ (Int32.toNatClampNeg x1) l := fun l hl0 hl => by
            have h1 := wt_sum_pre (f := fun k => wt_nw σ (Int32.toNatClampNeg (wt_ga σ (255 + Int32.toNatClampNeg t) k)) l) (a := Int32.toNatClampNeg y.1 + 1) (Int32.toNatClampNeg (wt_ga σ 253 (Int32.toNatClampNeg t))) (by first | with_reducible assumption | omega) (fun k _ => (wt_nw_bd r0 _ _).1)
            have h2 : wt_sum (fun k => wt_nw σ (Int32.toNatClampNeg (wt_ga σ (255 + Int32.toNatClampNeg t) k)) l) (Int32.toNatClampNeg y.1 + 1) = wt_sum (fun k => wt_nw σ (Int32.toNatClampNeg (wt_ga σ (255 + Int32.toNatClampNeg t) k)) l) (Int32.toNatClampNeg y.1) + wt_nw σ (Int32.toNatClampNeg (wt_ga σ (255 + Int32.toNatClampNeg t) (Int32.toNatClampNeg y.1))) l := rfl
            have h3 := pg l hl0 hl
            unfold wt_nt at h3
            omega
          generalize hwd : wt_ga σ (255 + Int32.toNatClampNeg t) (Int32.toNatClampNeg y.1) = w at *
          have hw := wt_tnI g1.1
          have g9 := gn (Int32.toNatClampNeg w)
          have hg9 := wt_tnI g9.1
          refine wt_T_it (fun s : Int32 × wt_St => wt_fr (fun i k => False) (fun i => i = 290 ∨ i = 289) σ s.2 ∧ wt_RI s.2 ∧ 0 ≤ s.1.toInt ∧ s.1.toInt ≤ (wt_ga σ 126 (Int32.toNatClampNeg w)).toInt ∧ ∀ l : Nat, l < 26 → (wt_ga s.2 290 l).toInt = wt_sum (fun k => wt_nw σ (Int32.toNatClampNeg (wt_ga σ (255 + Int32.toNatClampNeg t) k)) l) (Int32.toNatClampNeg y.1) + wt_ct (fun k => (wt_ga σ (193 + Int32.toNatClampNeg w) k).toInt) l (Int32.toNatClampNeg s.1)) (fun s => ((wt_ga σ 126 (Int32.toNatClampNeg w)).toInt - s.1.toInt).toNat) (fun K54 u hU hK54 => ?_) n _ ?_ ?_
          · obtain ⟨fu, ru, n1, n2, n3⟩ := hU
            unfold wp_md_readOf_B54
            rw [fu.2 126 (by first | with_reducible assumption | omega) (Int32.toNatClampNeg w), fu.2 (193 + Int32.toNatClampNeg w) (by first | with_reducible assumption | omega) (Int32.toNatClampNeg u.1)]
            have en := wt_tnI n1
            refine wt_T_gd (wt_ix (by first | with_reducible assumption | omega) (by first | with_reducible assumption | omega)) ?_
            refine wt_T_if (fun h3 => ?_) (fun h3 => ?_)
            · have c3 := wt_cle h3
              refine hK34 _ ⟨fu, ru, (show 0 ≤ (y.1 + (1 : Int32)).toInt by omega), (show (y.1 + (1 : Int32)).toInt ≤ x2.toInt + 1 by omega), fun l hl => ?_⟩ (show (x2.toInt + 1 - (y.1 + (1 : Int32)).toInt).toNat < (x2.toInt + 1 - y.1.toInt).toNat by omega)
              show (wt_ga u.2 290 l).toInt = wt_sum (fun k => wt_nw σ (Int32.toNatClampNeg (wt_ga σ (255 + Int32.toNatClampNeg t) k)) l) (Int32.toNatClampNeg (y.1 + (1 : Int32)))
              rw [wt_tn_i1 m1 (by first | with_reducible assumption | omega), n3 l hl]
              have ee : Int32.toNatClampNeg u.1 = Int32.toNatClampNeg (wt_ga σ 126 (Int32.toNatClampNeg w)) := by omega
              rw [ee]
              show _ = wt_sum (fun k => wt_nw σ (Int32.toNatClampNeg (wt_ga σ (255 + Int32.toNatClampNeg t) k)) l) (Int32.toNatClampNeg y.1) + wt_nw σ (Int32.toNatClampNeg (wt_ga σ (255 + Int32.toNatClampNeg t) (Int32.toNatClampNeg y.1))) l
              rw [hwd]
              rfl
            · have c3 := wt_ncle h3
              have gL : 0 ≤ (wt_ga σ (193 + Int32.toNatClampNeg w) (Int32.toNatClampNeg u.1)).toInt ∧ (wt_ga σ (193 + Int32.toNatClampNeg w) (Int32.toNatClampNeg u.1)).toInt ≤ 25 := wt_Ra8 r0 (193 + Int32.toNatClampNeg w) (show 193 ≤ 193 + Int32.toNatClampNeg w by omega) (show 193 + Int32.toNatClampNeg w < 253 by omega) _
              have hle := wt_sum_pre (f := fun k => if (wt_ga σ (193 + Int32.toNatClampNeg w) k).toInt = (wt_ga σ (193 + Int32.toNatClampNeg w) (Int32.toNatClampNeg u.1)).toInt then (1 : Int) else 0) (a := Int32.toNatClampNeg u.1 + 1) (Int32.toNatClampNeg (wt_ga σ 126 (Int32.toNatClampNeg w))) (by first | with_reducible assumption | omega) (fun k _ => by
                show (0 : Int) ≤ (if (wt_ga σ (193 + Int32.toNatClampNeg w) k).toInt = (wt_ga σ (193 + Int32.toNatClampNeg w) (Int32.toNatClampNeg u.1)).toInt then (1 : Int) else 0)
                split <;> omega)
              have hle2 : wt_sum (fun k => if (wt_ga σ (193 + Int32.toNatClampNeg w) k).toInt = (wt_ga σ (193 + Int32.toNatClampNeg w) (Int32.toNatClampNeg u.1)).toInt then (1 : Int) else 0) (Int32.toNatClampNeg u.1 + 1) = wt_ct (fun k => (wt_ga σ (193 + Int32.toNatClampNeg w) k).toInt) (wt_ga σ (193 + Int32.toNatClampNeg w) (Int32.toNatClampNeg u.1)).toInt (Int32.toNatClampNeg u.1) + 1 := by
                show wt_sum _ (Int32.toNatClampNeg u.1) + (if (wt_ga σ (193 + Int32.toNatClampNeg w) (Int32.toNatClampNeg u.1)).toInt = (wt_ga σ (193 + Int32.toNatClampNeg w) (Int32.toNatClampNeg u.1)).toInt then (1 : Int) else 0) = _
                rw [if_pos rfl]
                rfl
              have hle3 : wt_sum (fun k => if (wt_ga σ (193 + Int32.toNatClampNeg w) k).toInt = (wt_ga σ (193 + Int32.toNatClampNeg w) (Int32.toNatClampNeg u.1)).toInt then (1 : Int) else 0) (Int32.toNatClampNeg (wt_ga σ 126 (Int32.toNatClampNeg w))) = wt_nw σ (Int32.toNatClampNeg w) (wt_ga σ (193 + Int32.toNatClampNeg w) (Int32.toNatClampNeg u.1)).toInt := rfl
              have hSL := hS (wt_ga σ (193 + Int32.toNatClampNeg w) (Int32.toNatClampNeg u.1)).toInt gL.1 (by first | with_reducible assumption | omega)
              generalize hLd : wt_ga σ (193 + Int32.toNatClampNeg w) (Int32.toNatClampNeg u.1) = L at *
              have hL := wt_tnI gL.1
              have n3L := n3 (Int32.toNatClampNeg L) (by first | with_reducible assumption | omega)
              rw [hL] at n3L
              have hs0 := (wt_sum_bd (f := fun k => wt_nw σ (Int32.toNatClampNeg (wt_ga σ (255 + Int32.toNatClampNeg t) k)) L.toInt) (c := 9) (Int32.toNatClampNeg y.1) (fun k _ => wt_nw_bd r0 _ _))
              have hc0 := wt_ct_bd (fun k => (wt_ga σ (193 + Int32.toNatClampNeg w) k).toInt) L.toInt (Int32.toNatClampNeg u.1)
              have hpc : wt_pc u.2 (Int32.toNatClampNeg x1) L.toInt = wt_pc σ (Int32.toNatClampNeg x1) L.toInt := wt_pc_fr (by first | with_reducible assumption | omega) (fun i hi j => fu.2 i (fun h => by unfold wt_PA at hi; omega) j)
              refine wt_T_gd (wt_ix (by first | with_reducible assumption | omega) (by first | with_reducible assumption | omega)) ?_
              refine wt_T_gd (wt_ix (by first | with_reducible assumption | omega) (by first | with_reducible assumption | omega)) ?_
              refine wt_T_gd (wt_ix (by first | with_reducible assumption | omega) (by first | with_reducible assumption | omega)) ?_
              refine wt_T_bi (wq_md_pieceOnP n hn x1 L (wt_ga u.2 290 (Int32.toNatClampNeg L)) u.2 ru p0 p1 (by first | with_reducible assumption | omega) (by first | with_reducible assumption | omega)) (fun q24 h24 => ?_)
              obtain ⟨e24, v24⟩ := h24
              rw [e24]
              refine wt_T_gd (wt_ix (by first | with_reducible assumption | omega) (by first | with_reducible assumption | omega)) ?_
              refine wt_T_gd (wt_ix (by first | with_reducible assumption | omega) (by first | with_reducible assumption | omega)) ?_
              refine wt_T_gd (wt_ix (by first | with_reducible assumption | omega) (by first | with_reducible assumption | omega)) ?_
              obtain ⟨σ1, ε1⟩ : ∃ o : wt_St, o = wt_sa u.2 290 (Int32.toNatClampNeg L) ((wt_ga u.2 290 (Int32.toNatClampNeg L)) + (1 : Int32)) := ⟨_, rfl⟩
              rw [← ε1]
              have f1 := wt_fr_sa ε1
              have r1 := wt_RI_no ru ε1 290 291 (by decide +kernel) (by decide) (by decide)
              have ek := wt_i1 (c := u.1) (by first | with_reducible assumption | omega)
              have es := wt_i1 (c := wt_ga u.2 290 (Int32.toNatClampNeg L)) (by first | with_reducible assumption | omega)
              have step : ∀ v : Int32, wt_T (wp_md_readOf_B148 n x1 x2 t y.1 w u.1 K34 K54 289 u.1 v σ1) (fun q => wt_fr (fun i k => False) (fun i => i = 290 ∨ i = 289) σ q.2 ∧ wt_RI q.2) := by
                intro v
                unfold wp_md_readOf_B148
                refine wt_T_gd (wt_ix (by first | with_reducible assumption | omega) (by first | with_reducible assumption | omega)) ?_
                obtain ⟨σ2, ε2⟩ : ∃ o : wt_St, o = wt_sa σ1 289 (Int32.toNatClampNeg u.1) v := ⟨_, rfl⟩
                rw [← ε2]
                have f2 := wt_fr_sa ε2
                refine hK54 _ ⟨wt_fr.tr (wt_fr.tr fu f1 (fun i k h => h.elim) (fun i h => Or.inl h)) f2 (fun i k h => h.elim) (fun i h => Or.inr h), wt_RI_no r1 ε2 289 290 (by decide +kernel) (by decide) (by decide), (show 0 ≤ (u.1 + (1 : Int32)).toInt by omega), (show (u.1 + (1 : Int32)).toInt ≤ (wt_ga σ 126 (Int32.toNatClampNeg w)).toInt by omega), fun l hl => ?_⟩ (show ((wt_ga σ 126 (Int32.toNatClampNeg w)).toInt - (u.1 + (1 : Int32)).toInt).toNat < ((wt_ga σ 126 (Int32.toNatClampNeg w)).toInt - u.1.toInt).toNat by omega)
                show (wt_ga σ2 290 l).toInt = wt_sum (fun k => wt_nw σ (Int32.toNatClampNeg (wt_ga σ (255 + Int32.toNatClampNeg t) k)) l) (Int32.toNatClampNeg y.1) + wt_ct (fun k => (wt_ga σ (193 + Int32.toNatClampNeg w) k).toInt) l (Int32.toNatClampNeg (u.1 + (1 : Int32)))
                rw [wt_tn_i1 n1 (by first | with_reducible assumption | omega), f2.2 290 (by decide)]
                show (wt_ga σ1 290 l).toInt = wt_sum (fun k => wt_nw σ (Int32.toNatClampNeg (wt_ga σ (255 + Int32.toNatClampNeg t) k)) l) (Int32.toNatClampNeg y.1) + (wt_ct (fun k => (wt_ga σ (193 + Int32.toNatClampNeg w) k).toInt) l (Int32.toNatClampNeg u.1) + if (wt_ga σ (193 + Int32.toNatClampNeg w) (Int32.toNatClampNeg u.1)).toInt = (l : Int) then 1 else 0)
                rw [hLd]
                have n3l := n3 l hl
                by_cases hc : l = Int32.toNatClampNeg L
                · rw [if_pos (by first | with_reducible assumption | omega), hc, wt_v_sa ε1, es, ← hc, n3l]
                  omega
                · rw [if_neg (by first | with_reducible assumption | omega), wt_w_sa ε1 l hc, n3l]
                  omega
              have step2 : wt_T (wp_md_readOf_B146 n x1 x2 t y.1 w u.1 L K34 K54 289 u.1 σ1) (fun q => wt_fr (fun i k => False) (fun i => i = 290 ∨ i = 289) σ q.2 ∧ wt_RI q.2) := by
                unfold wp_md_readOf_B146
                exact step _
              refine wt_T_if (fun _ => step2) (fun _ => ?_)
              refine wt_T_gd (wt_ix (by first | with_reducible assumption | omega) (by first | with_reducible assumption | omega)) ?_
              refine wt_T_if (fun _ => step2) (fun _ => ?_)
              refine wt_T_gd (wt_ix (by first | with_reducible assumption | omega) (by first | with_reducible assumption | omega)) ?_
              exact step _
          · refine ⟨fy, ry, (show 0 ≤ (0 : Int32).toInt by omega), (show (0 : Int32).toInt ≤ (wt_ga σ 126 (Int32.toNatClampNeg w)).toInt by omega), fun l hl => ?_⟩
            show (wt_ga y.2 290 l).toInt = wt_sum (fun k => wt_nw σ (Int32.toNatClampNeg (wt_ga σ (255 + Int32.toNatClampNeg t) k)) l) (Int32.toNatClampNeg y.1) + wt_ct (fun k => (wt_ga σ (193 + Int32.toNatClampNeg w) k).toInt) l (Int32.toNatClampNeg (0 : Int32))
            rw [wt_tn0, m3 l hl]
            exact (Int.add_zero _).symm
          · show ((wt_ga σ 126 (Int32.toNatClampNeg w)).toInt - (0 : Int32).toInt).toNat < n
            omega
      · refine ⟨fz, rz, (show 0 ≤ (0 : Int32).toInt by omega), (show (0 : Int32).toInt ≤ x2.toInt + 1 by omega), fun l hl => ?_⟩
        show (wt_ga z.2 290 l).toInt = wt_sum (fun k => wt_nw σ (Int32.toNatClampNeg (wt_ga σ (255 + Int32.toNatClampNeg t) k)) l) (Int32.toNatClampNeg (0 : Int32))
        rw [wt_tn0, l2 l (by first | with_reducible assumption | omega)]
        rfl
      · show (x2.toInt + 1 - (0 : Int32).toInt).toNat < n
        omega
    · have c := wt_ncle h
      have et := wt_tnI l1
      have ei := wt_i1 (c := z.1) (by first | with_reducible assumption | omega)
      refine wt_T_gd (wt_ix (by first | with_reducible assumption | omega) (by first | with_reducible assumption | omega)) ?_
      obtain ⟨σ1, ε1⟩ : ∃ o : wt_St, o = wt_sa z.2 290 (Int32.toNatClampNeg z.1) (0 : Int32) := ⟨_, rfl⟩
      rw [← ε1]
      refine hK10 _ ⟨wt_fr.tr fz (wt_fr_sa ε1) (fun i k h => h) (fun i h => Or.inl h), wt_RI_no rz ε1 290 291 (by decide +kernel) (by decide) (by decide), (show 0 ≤ (z.1 + (1 : Int32)).toInt by omega), fun l hl => ?_⟩ (show (26 - (z.1 + (1 : Int32)).toInt).toNat < (26 - z.1.toInt).toNat by omega)
      have hl' : (l : Int) < (z.1 + (1 : Int32)).toInt := hl
      show (wt_ga σ1 290 l).toInt = 0
      by_cases hc : l = Int32.toNatClampNeg z.1
      · rw [hc, wt_v_sa ε1]
        exact k0
      · rw [wt_w_sa ε1 l hc]
        exact l2 l (by first | with_reducible assumption | omega)
  · exact ⟨wt_fr.rf, r0, (show 0 ≤ (0 : Int32).toInt by omega), fun l hl => by
      have hl' : (l : Int) < (0 : Int32).toInt := hl
      omega⟩
  · show (26 - (0 : Int32).toInt).toNat < n
    omega

set_option maxRecDepth 100000 in
set_option maxHeartbeats 4000000 in
theorem wq_md_page_B41 (n : Nat) (hn : 4294967297 < n) (x1 : Int32) (x2 : Int32) (y1 : Int32) (σ : wt_St) (r0 : wt_RI σ) (p0 : y1.toInt ≠ 0 ∨ (0 ≤ x1.toInt ∧ x1.toInt ≤ 3 ∧ (wt_ga σ 275 (Int32.toNatClampNeg x1)).toInt ≠ -1)) (p1 : wt_PG σ) : wt_T (wp_md_page_B41 n x1 x2 y1 σ) (fun q => wt_fr (fun i k => (i = 108 ∧ k = 0)) (fun i => i = 290 ∨ i = 289) σ q.2 ∧ wt_RI q.2) := by
  have bb1 := wt_bd x1
  have bb2 := wt_bd x2
  have bb3 := wt_bd y1
  have bb4 := wt_tn x1
  have g6 : -1 ≤ (wt_ga σ 275 (Int32.toNatClampNeg x1)).toInt ∧ (wt_ga σ 275 (Int32.toNatClampNeg x1)).toInt ≤ 7 := wt_Ra12 r0 275 (by decide) (by decide) (Int32.toNatClampNeg x1)
  unfold wp_md_page_B41
  have k7 : (2 : Int32).toInt = 2 := by decide
  refine wt_T_bi (wq_md_bad n hn y1 (2 : Int32) σ r0 (by first | with_reducible assumption | omega)) (fun r8 h9 => ?_)
  obtain ⟨f10, ri11, pp12⟩ := h9
  have bb13 := wt_bd r8.1
  have bb14 := wt_bd (wt_gf r8.2 108 0)
  have bb15 := wt_bd (wt_gf σ 108 0)
  have k16 : (0 : Int32).toInt = 0 := by decide
  refine wt_T_if (fun h17 => ?_) (fun h17 => ?_)
  · skip
    have c18 := wt_ceq h17
    refine wt_T_if (fun h19 => ?_) (fun h19 => ?_)
    · skip
      have c20 := wt_cle h19
      have k21 : (3 : Int32).toInt = 3 := by decide
      refine wt_T_if (fun h22 => ?_) (fun h22 => ?_)
      · skip
        have c23 := wt_ceq h22
        refine wt_T_bi (wq_md_leastOf n hn x1 r8.2 ri11 (by first | with_reducible assumption | omega) (by first | with_reducible assumption | omega)) (fun r24 h25 => ?_)
        have e26 := h25
        have bb27 := wt_bd r24.1
        rw [e26]
        refine wt_T_some ?_
        exact ⟨(wt_fr.tr wt_fr.rf f10 (fun i k h => by (try dsimp only at h); exact (by first | exact h | omega)) (fun i h => h.elim)), ri11⟩
      · skip
        have c28 := wt_nceq h22
        refine wt_T_it (fun s : Int32 × Int32 × wt_St => s.2.2 = r8.2 ∧ 0 ≤ (s.2.1).toInt) (fun s : Int32 × Int32 × wt_St => ((wt_ga s.2.2 276 (Int32.toNatClampNeg x1)).toInt - s.2.1.toInt + 0).toNat) (fun KK29 z30 I31 hKK29 => ?_) _ _ ?_ ?_
        · skip
          obtain ⟨l32, l33⟩ := I31
          unfold wp_md_page_B91
          rw [l32]
          have g35 : 0 ≤ (wt_ga r8.2 276 (Int32.toNatClampNeg x1)).toInt ∧ (wt_ga r8.2 276 (Int32.toNatClampNeg x1)).toInt ≤ 108 := wt_Ra13 ri11 276 (by decide) (by decide) (Int32.toNatClampNeg x1)
          have tt36 : (wt_ga r8.2 276 (Int32.toNatClampNeg x1)).toInt = (wt_ga σ 276 (Int32.toNatClampNeg x1)).toInt := congrArg Int32.toInt (f10.2 276 (fun z => z) (Int32.toNatClampNeg x1))
          have bb39 := wt_bd z30.2.1
          refine wt_T_gd (wt_ix (by first | with_reducible assumption | omega) (by first | with_reducible assumption | omega)) ?_
          refine wt_T_if (fun h40 => ?_) (fun h40 => ?_)
          · skip
            have c41 := wt_cle h40
            unfold wp_md_page_B142
            have bb48 := wt_bd z30.1
            refine wt_T_it (fun s : Int32 × Int32 × wt_St => wt_fr (fun i k => False) (fun i => i = 290 ∨ i = 289) r8.2 s.2.2 ∧ 0 ≤ (s.2.1).toInt ∧ wt_RI s.2.2) (fun s : Int32 × Int32 × wt_St => (12 - s.2.1.toInt).toNat) (fun KK42 z43 I44 hKK42 => ?_) _ _ ?_ ?_
            · skip
              obtain ⟨l45, l46, l47⟩ := I44
              unfold wp_md_page_B145
              have bb49 := wt_bd z43.2.1
              refine wt_T_gd (wt_ix (by first | with_reducible assumption | omega) (by first | with_reducible assumption | omega)) ?_
              have g51 : -1 ≤ (wt_ga z43.2.2 275 (Int32.toNatClampNeg x1)).toInt ∧ (wt_ga z43.2.2 275 (Int32.toNatClampNeg x1)).toInt ≤ 7 := wt_Ra12 l47 275 (by decide) (by decide) (Int32.toNatClampNeg x1)
              have tt52 : (wt_ga z43.2.2 275 (Int32.toNatClampNeg x1)).toInt = (wt_ga r8.2 275 (Int32.toNatClampNeg x1)).toInt := congrArg Int32.toInt (l45.2 275 (by (try dsimp only); omega) (Int32.toNatClampNeg x1))
              have tt55 : (wt_ga r8.2 275 (Int32.toNatClampNeg x1)).toInt = (wt_ga σ 275 (Int32.toNatClampNeg x1)).toInt := congrArg Int32.toInt (f10.2 275 (fun z => z) (Int32.toNatClampNeg x1))
              refine wt_T_gd (wt_ix (by first | with_reducible assumption | omega) (by first | with_reducible assumption | omega)) ?_
              have bb56 := wt_tn (wt_ga z43.2.2 275 (Int32.toNatClampNeg x1))
              have g58 : 0 ≤ (wt_ga z43.2.2 253 (Int32.toNatClampNeg (wt_ga z43.2.2 275 (Int32.toNatClampNeg x1)))).toInt ∧ (wt_ga z43.2.2 253 (Int32.toNatClampNeg (wt_ga z43.2.2 275 (Int32.toNatClampNeg x1)))).toInt ≤ 12 := wt_Ra9 l47 253 (by decide) (by decide) (Int32.toNatClampNeg (wt_ga z43.2.2 275 (Int32.toNatClampNeg x1)))
              have tt59 : (wt_ga z43.2.2 253 (Int32.toNatClampNeg (wt_ga z43.2.2 275 (Int32.toNatClampNeg x1)))).toInt = (wt_ga r8.2 253 (Int32.toNatClampNeg (wt_ga z43.2.2 275 (Int32.toNatClampNeg x1)))).toInt := congrArg Int32.toInt (l45.2 253 (by (try dsimp only); omega) (Int32.toNatClampNeg (wt_ga z43.2.2 275 (Int32.toNatClampNeg x1))))
              have tt62 : (wt_ga r8.2 253 (Int32.toNatClampNeg (wt_ga z43.2.2 275 (Int32.toNatClampNeg x1)))).toInt = (wt_ga σ 253 (Int32.toNatClampNeg (wt_ga z43.2.2 275 (Int32.toNatClampNeg x1)))).toInt := congrArg Int32.toInt (f10.2 253 (fun z => z) (Int32.toNatClampNeg (wt_ga z43.2.2 275 (Int32.toNatClampNeg x1))))
              refine wt_T_if (fun h65 => ?_) (fun h65 => ?_)
              · skip
                have c66 := wt_cle h65
                refine wt_T_some ?_
                exact ⟨(wt_fr.tr (wt_fr.tr wt_fr.rf f10 (fun i k h => by (try dsimp only at h); exact (by first | exact h | omega)) (fun i h => h.elim)) l45 (fun i k h => h.elim) (fun i h => by (try dsimp only at h); rcases h with h | h; exact Or.inl (by first | exact h | omega); exact Or.inr (by first | exact h | omega))), l47⟩
              · skip
                have c67 := wt_ncle h65
                have k68 : (4 : Int32).toInt = 4 := by decide
                refine wt_T_if (fun h69 => ?_) (fun h69 => ?_)
                · skip
                  have c70 := wt_ceq h69
                  refine wt_T_bi (wq_md_readOf n hn x1 z43.2.1 z43.2.2 l47 (by first | with_reducible assumption | omega) (by first | with_reducible assumption | omega) (by first | with_reducible assumption | omega) (by first | with_reducible assumption | omega) (by first | with_reducible assumption | omega) (wt_PG_fr (F := fun i k => (i = 108 ∧ k = 0)) (A := fun i => i = 290 ∨ i = 289) r0 p1 (wt_fr.tr (wt_fr.tr wt_fr.rf f10 (fun i k h => by (try dsimp only at h); exact (by first | exact h | omega)) (fun i h => h.elim)) l45 (fun i k h => h.elim) (fun i h => by (try dsimp only at h); rcases h with h | h; exact Or.inl (by first | exact h | omega); exact Or.inr (by first | exact h | omega))) (by (try dsimp only); first | omega | exact fun h => h) (fun i hi => by (try dsimp only); unfold wt_PA at hi; omega))) (fun r71 h72 => ?_)
                  obtain ⟨f73, ri74⟩ := h72
                  have bb75 := wt_bd r71.1
                  refine wt_T_gd (wt_ix (by first | with_reducible assumption | omega) (by first | with_reducible assumption | omega)) ?_
                  have g77 : -1 ≤ (wt_ga r71.2 275 (Int32.toNatClampNeg x1)).toInt ∧ (wt_ga r71.2 275 (Int32.toNatClampNeg x1)).toInt ≤ 7 := wt_Ra12 ri74 275 (by decide) (by decide) (Int32.toNatClampNeg x1)
                  have tt78 : (wt_ga r71.2 275 (Int32.toNatClampNeg x1)).toInt = (wt_ga z43.2.2 275 (Int32.toNatClampNeg x1)).toInt := congrArg Int32.toInt (f73.2 275 (by (try dsimp only); omega) (Int32.toNatClampNeg x1))
                  refine wt_T_gd (wt_ix (by first | with_reducible assumption | omega) (by first | with_reducible assumption | omega)) ?_
                  refine wt_T_gd (wt_ix (by first | with_reducible assumption | omega) (by first | with_reducible assumption | omega)) ?_
                  have bb79 := wt_tn (wt_ga r71.2 275 (Int32.toNatClampNeg x1))
                  have bb80 := wt_tn z43.2.1
                  have g82 : 0 ≤ (wt_ga r71.2 (255 + (Int32.toNatClampNeg (wt_ga r71.2 275 (Int32.toNatClampNeg x1)))) (Int32.toNatClampNeg z43.2.1)).toInt ∧ (wt_ga r71.2 (255 + (Int32.toNatClampNeg (wt_ga r71.2 275 (Int32.toNatClampNeg x1)))) (Int32.toNatClampNeg z43.2.1)).toInt ≤ 59 := wt_Ra10 ri74 (255 + (Int32.toNatClampNeg (wt_ga r71.2 275 (Int32.toNatClampNeg x1)))) (show 255 ≤ 255 + (Int32.toNatClampNeg (wt_ga r71.2 275 (Int32.toNatClampNeg x1))) by omega) (show 255 + (Int32.toNatClampNeg (wt_ga r71.2 275 (Int32.toNatClampNeg x1))) < 263 by omega) (Int32.toNatClampNeg z43.2.1)
                  have tt83 : (wt_ga r71.2 (255 + (Int32.toNatClampNeg (wt_ga r71.2 275 (Int32.toNatClampNeg x1)))) (Int32.toNatClampNeg z43.2.1)).toInt = (wt_ga z43.2.2 (255 + (Int32.toNatClampNeg (wt_ga r71.2 275 (Int32.toNatClampNeg x1)))) (Int32.toNatClampNeg z43.2.1)).toInt := congrArg Int32.toInt (f73.2 (255 + (Int32.toNatClampNeg (wt_ga r71.2 275 (Int32.toNatClampNeg x1)))) (by (try dsimp only); omega) (Int32.toNatClampNeg z43.2.1))
                  have tt86 : (wt_ga z43.2.2 (255 + (Int32.toNatClampNeg (wt_ga r71.2 275 (Int32.toNatClampNeg x1)))) (Int32.toNatClampNeg z43.2.1)).toInt = (wt_ga r8.2 (255 + (Int32.toNatClampNeg (wt_ga r71.2 275 (Int32.toNatClampNeg x1)))) (Int32.toNatClampNeg z43.2.1)).toInt := congrArg Int32.toInt (l45.2 (255 + (Int32.toNatClampNeg (wt_ga r71.2 275 (Int32.toNatClampNeg x1)))) (by (try dsimp only); omega) (Int32.toNatClampNeg z43.2.1))
                  have tt89 : (wt_ga r8.2 (255 + (Int32.toNatClampNeg (wt_ga r71.2 275 (Int32.toNatClampNeg x1)))) (Int32.toNatClampNeg z43.2.1)).toInt = (wt_ga σ (255 + (Int32.toNatClampNeg (wt_ga r71.2 275 (Int32.toNatClampNeg x1)))) (Int32.toNatClampNeg z43.2.1)).toInt := congrArg Int32.toInt (f10.2 (255 + (Int32.toNatClampNeg (wt_ga r71.2 275 (Int32.toNatClampNeg x1)))) (fun z => z) (Int32.toNatClampNeg z43.2.1))
                  refine wt_T_if (fun h92 => ?_) (fun h92 => ?_)
                  · skip
                    have c93 := wt_ceq h92
                    unfold wp_md_page_B196
                    have bb94 := wt_bd z43.1
                    obtain ⟨j95, j95a, j95b⟩ := wt_addI z43.1 (0 : Int32)
                    have k96 : (1 : Int32).toInt = 1 := by decide
                    obtain ⟨j97, j97a, j97b⟩ := wt_addI z43.2.1 (1 : Int32)
                    refine hKK42 _ ⟨(wt_fr.tr (wt_fr.tr wt_fr.rf l45 (fun i k h => h.elim) (fun i h => by (try dsimp only at h); rcases h with h | h; exact Or.inl (by first | exact h | omega); exact Or.inr (by first | exact h | omega))) f73 (fun i k h => h.elim) (fun i h => by (try dsimp only at h); rcases h with h | h; exact Or.inl (by first | exact h | omega); exact Or.inr (by first | exact h | omega))), (show 0 ≤ ((z43.2.1 + (1 : Int32))).toInt by omega), ri74⟩ ?_
                    show (12 - (z43.2.1 + (1 : Int32)).toInt).toNat < (12 - z43.2.1.toInt).toNat
                    omega
                  · skip
                    have c98 := wt_nceq h92
                    unfold wp_md_page_B196
                    have bb99 := wt_bd z43.1
                    have k100 : (1 : Int32).toInt = 1 := by decide
                    obtain ⟨j101, j101a, j101b⟩ := wt_addI z43.1 (1 : Int32)
                    obtain ⟨j102, j102a, j102b⟩ := wt_addI z43.2.1 (1 : Int32)
                    refine hKK42 _ ⟨(wt_fr.tr (wt_fr.tr wt_fr.rf l45 (fun i k h => h.elim) (fun i h => by (try dsimp only at h); rcases h with h | h; exact Or.inl (by first | exact h | omega); exact Or.inr (by first | exact h | omega))) f73 (fun i k h => h.elim) (fun i h => by (try dsimp only at h); rcases h with h | h; exact Or.inl (by first | exact h | omega); exact Or.inr (by first | exact h | omega))), (show 0 ≤ ((z43.2.1 + (1 : Int32))).toInt by omega), ri74⟩ ?_
                    show (12 - (z43.2.1 + (1 : Int32)).toInt).toNat < (12 - z43.2.1.toInt).toNat
                    omega
                · skip
                  have c103 := wt_nceq h69
                  refine wt_T_some ?_
                  exact ⟨(wt_fr.tr (wt_fr.tr wt_fr.rf f10 (fun i k h => by (try dsimp only at h); exact (by first | exact h | omega)) (fun i h => h.elim)) l45 (fun i k h => h.elim) (fun i h => by (try dsimp only at h); rcases h with h | h; exact Or.inl (by first | exact h | omega); exact Or.inr (by first | exact h | omega))), l47⟩
            · skip
              exact ⟨wt_fr.rf, (show 0 ≤ ((0 : Int32)).toInt by omega), ri11⟩
            · skip
              show (12 - (0 : Int32).toInt).toNat < n
              omega
          · skip
            have c104 := wt_ncle h40
            refine wt_T_if (fun h105 => ?_) (fun h105 => ?_)
            · skip
              have c106 := wt_ceq h105
              refine wt_T_gd (wt_ix (by first | with_reducible assumption | omega) (by first | with_reducible assumption | omega)) ?_
              refine wt_T_gd (wt_ix (by first | with_reducible assumption | omega) (by first | with_reducible assumption | omega)) ?_
              have bb107 := wt_tn z30.2.1
              have g109 : 0 ≤ (wt_ga r8.2 (278 + (Int32.toNatClampNeg x1)) (Int32.toNatClampNeg z30.2.1)).toInt ∧ (wt_ga r8.2 (278 + (Int32.toNatClampNeg x1)) (Int32.toNatClampNeg z30.2.1)).toInt ≤ 337 := wt_Ra14 ri11 (278 + (Int32.toNatClampNeg x1)) (show 278 ≤ 278 + (Int32.toNatClampNeg x1) by omega) (show 278 + (Int32.toNatClampNeg x1) < 282 by omega) (Int32.toNatClampNeg z30.2.1)
              have tt110 : (wt_ga r8.2 (278 + (Int32.toNatClampNeg x1)) (Int32.toNatClampNeg z30.2.1)).toInt = (wt_ga σ (278 + (Int32.toNatClampNeg x1)) (Int32.toNatClampNeg z30.2.1)).toInt := congrArg Int32.toInt (f10.2 (278 + (Int32.toNatClampNeg x1)) (fun z => z) (Int32.toNatClampNeg z30.2.1))
              refine wt_T_gd (wt_ix (by first | with_reducible assumption | omega) (by first | with_reducible assumption | omega)) ?_
              have bb113 := wt_bd (wt_gf r8.2 108 25)
              have tt114 : (wt_gf r8.2 108 25).toInt = (wt_gf σ 108 25).toInt := congrArg Int32.toInt (f10.1 108 25 (by (try dsimp only); omega))
              have bb115 := wt_bd (wt_gf σ 108 25)
              have bb116 := wt_tn (wt_ga r8.2 (278 + (Int32.toNatClampNeg x1)) (Int32.toNatClampNeg z30.2.1))
              have g118 : 0 ≤ (wt_ga r8.2 121 (Int32.toNatClampNeg (wt_ga r8.2 (278 + (Int32.toNatClampNeg x1)) (Int32.toNatClampNeg z30.2.1)))).toInt ∧ (wt_ga r8.2 121 (Int32.toNatClampNeg (wt_ga r8.2 (278 + (Int32.toNatClampNeg x1)) (Int32.toNatClampNeg z30.2.1)))).toInt ≤ 400 := wt_Ra3 ri11 121 (by decide) (by decide) (Int32.toNatClampNeg (wt_ga r8.2 (278 + (Int32.toNatClampNeg x1)) (Int32.toNatClampNeg z30.2.1)))
              have tt119 : (wt_ga r8.2 121 (Int32.toNatClampNeg (wt_ga r8.2 (278 + (Int32.toNatClampNeg x1)) (Int32.toNatClampNeg z30.2.1)))).toInt = (wt_ga σ 121 (Int32.toNatClampNeg (wt_ga r8.2 (278 + (Int32.toNatClampNeg x1)) (Int32.toNatClampNeg z30.2.1)))).toInt := congrArg Int32.toInt (f10.2 121 (fun z => z) (Int32.toNatClampNeg (wt_ga r8.2 (278 + (Int32.toNatClampNeg x1)) (Int32.toNatClampNeg z30.2.1))))
              refine wt_T_if (fun h122 => ?_) (fun h122 => ?_)
              · skip
                have c123 := wt_cle h122
                unfold wp_md_page_B134
                have bb124 := wt_bd z30.1
                obtain ⟨j125, j125a, j125b⟩ := wt_addI z30.1 (0 : Int32)
                refine hKK29 _ ⟨rfl, (wt_nn (B := wt_ga z30.2.2 276 (Int32.toNatClampNeg x1)) (by first | with_reducible assumption | omega) (by first | (rw [l32]; omega) | (rw [l32]; done) | omega))⟩ ?_
                show ((wt_ga r8.2 276 (Int32.toNatClampNeg x1)).toInt - (z30.2.1 + (1 : Int32)).toInt + 0).toNat < ((wt_ga z30.2.2 276 (Int32.toNatClampNeg x1)).toInt - z30.2.1.toInt + 0).toNat
                exact wt_mu (by first | (rw [l32]; omega) | (rw [l32]; done) | omega) (by first | (rw [l32]; omega) | (rw [l32]; done) | omega)
              · skip
                have c126 := wt_ncle h122
                unfold wp_md_page_B134
                have bb127 := wt_bd z30.1
                have k128 : (1 : Int32).toInt = 1 := by decide
                obtain ⟨j129, j129a, j129b⟩ := wt_addI z30.1 (1 : Int32)
                refine hKK29 _ ⟨rfl, (wt_nn (B := wt_ga z30.2.2 276 (Int32.toNatClampNeg x1)) (by first | with_reducible assumption | omega) (by first | (rw [l32]; omega) | (rw [l32]; done) | omega))⟩ ?_
                show ((wt_ga r8.2 276 (Int32.toNatClampNeg x1)).toInt - (z30.2.1 + (1 : Int32)).toInt + 0).toNat < ((wt_ga z30.2.2 276 (Int32.toNatClampNeg x1)).toInt - z30.2.1.toInt + 0).toNat
                exact wt_mu (by first | (rw [l32]; omega) | (rw [l32]; done) | omega) (by first | (rw [l32]; omega) | (rw [l32]; done) | omega)
            · skip
              have c130 := wt_nceq h105
              unfold wp_md_page_B142
              have bb137 := wt_bd z30.1
              refine wt_T_it (fun s : Int32 × Int32 × wt_St => wt_fr (fun i k => False) (fun i => i = 290 ∨ i = 289) r8.2 s.2.2 ∧ 0 ≤ (s.2.1).toInt ∧ wt_RI s.2.2) (fun s : Int32 × Int32 × wt_St => (12 - s.2.1.toInt).toNat) (fun KK131 z132 I133 hKK131 => ?_) _ _ ?_ ?_
              · skip
                obtain ⟨l134, l135, l136⟩ := I133
                unfold wp_md_page_B145
                have bb138 := wt_bd z132.2.1
                refine wt_T_gd (wt_ix (by first | with_reducible assumption | omega) (by first | with_reducible assumption | omega)) ?_
                have g140 : -1 ≤ (wt_ga z132.2.2 275 (Int32.toNatClampNeg x1)).toInt ∧ (wt_ga z132.2.2 275 (Int32.toNatClampNeg x1)).toInt ≤ 7 := wt_Ra12 l136 275 (by decide) (by decide) (Int32.toNatClampNeg x1)
                have tt141 : (wt_ga z132.2.2 275 (Int32.toNatClampNeg x1)).toInt = (wt_ga r8.2 275 (Int32.toNatClampNeg x1)).toInt := congrArg Int32.toInt (l134.2 275 (by (try dsimp only); omega) (Int32.toNatClampNeg x1))
                have tt144 : (wt_ga r8.2 275 (Int32.toNatClampNeg x1)).toInt = (wt_ga σ 275 (Int32.toNatClampNeg x1)).toInt := congrArg Int32.toInt (f10.2 275 (fun z => z) (Int32.toNatClampNeg x1))
                refine wt_T_gd (wt_ix (by first | with_reducible assumption | omega) (by first | with_reducible assumption | omega)) ?_
                have bb145 := wt_tn (wt_ga z132.2.2 275 (Int32.toNatClampNeg x1))
                have g147 : 0 ≤ (wt_ga z132.2.2 253 (Int32.toNatClampNeg (wt_ga z132.2.2 275 (Int32.toNatClampNeg x1)))).toInt ∧ (wt_ga z132.2.2 253 (Int32.toNatClampNeg (wt_ga z132.2.2 275 (Int32.toNatClampNeg x1)))).toInt ≤ 12 := wt_Ra9 l136 253 (by decide) (by decide) (Int32.toNatClampNeg (wt_ga z132.2.2 275 (Int32.toNatClampNeg x1)))
                have tt148 : (wt_ga z132.2.2 253 (Int32.toNatClampNeg (wt_ga z132.2.2 275 (Int32.toNatClampNeg x1)))).toInt = (wt_ga r8.2 253 (Int32.toNatClampNeg (wt_ga z132.2.2 275 (Int32.toNatClampNeg x1)))).toInt := congrArg Int32.toInt (l134.2 253 (by (try dsimp only); omega) (Int32.toNatClampNeg (wt_ga z132.2.2 275 (Int32.toNatClampNeg x1))))
                have tt151 : (wt_ga r8.2 253 (Int32.toNatClampNeg (wt_ga z132.2.2 275 (Int32.toNatClampNeg x1)))).toInt = (wt_ga σ 253 (Int32.toNatClampNeg (wt_ga z132.2.2 275 (Int32.toNatClampNeg x1)))).toInt := congrArg Int32.toInt (f10.2 253 (fun z => z) (Int32.toNatClampNeg (wt_ga z132.2.2 275 (Int32.toNatClampNeg x1))))
                refine wt_T_if (fun h154 => ?_) (fun h154 => ?_)
                · skip
                  have c155 := wt_cle h154
                  refine wt_T_some ?_
                  exact ⟨(wt_fr.tr (wt_fr.tr wt_fr.rf f10 (fun i k h => by (try dsimp only at h); exact (by first | exact h | omega)) (fun i h => h.elim)) l134 (fun i k h => h.elim) (fun i h => by (try dsimp only at h); rcases h with h | h; exact Or.inl (by first | exact h | omega); exact Or.inr (by first | exact h | omega))), l136⟩
                · skip
                  have c156 := wt_ncle h154
                  have k157 : (4 : Int32).toInt = 4 := by decide
                  refine wt_T_if (fun h158 => ?_) (fun h158 => ?_)
                  · skip
                    have c159 := wt_ceq h158
                    refine wt_T_bi (wq_md_readOf n hn x1 z132.2.1 z132.2.2 l136 (by first | with_reducible assumption | omega) (by first | with_reducible assumption | omega) (by first | with_reducible assumption | omega) (by first | with_reducible assumption | omega) (by first | with_reducible assumption | omega) (wt_PG_fr (F := fun i k => (i = 108 ∧ k = 0)) (A := fun i => i = 290 ∨ i = 289) r0 p1 (wt_fr.tr (wt_fr.tr wt_fr.rf f10 (fun i k h => by (try dsimp only at h); exact (by first | exact h | omega)) (fun i h => h.elim)) l134 (fun i k h => h.elim) (fun i h => by (try dsimp only at h); rcases h with h | h; exact Or.inl (by first | exact h | omega); exact Or.inr (by first | exact h | omega))) (by (try dsimp only); first | omega | exact fun h => h) (fun i hi => by (try dsimp only); unfold wt_PA at hi; omega))) (fun r160 h161 => ?_)
                    obtain ⟨f162, ri163⟩ := h161
                    have bb164 := wt_bd r160.1
                    refine wt_T_gd (wt_ix (by first | with_reducible assumption | omega) (by first | with_reducible assumption | omega)) ?_
                    have g166 : -1 ≤ (wt_ga r160.2 275 (Int32.toNatClampNeg x1)).toInt ∧ (wt_ga r160.2 275 (Int32.toNatClampNeg x1)).toInt ≤ 7 := wt_Ra12 ri163 275 (by decide) (by decide) (Int32.toNatClampNeg x1)
                    have tt167 : (wt_ga r160.2 275 (Int32.toNatClampNeg x1)).toInt = (wt_ga z132.2.2 275 (Int32.toNatClampNeg x1)).toInt := congrArg Int32.toInt (f162.2 275 (by (try dsimp only); omega) (Int32.toNatClampNeg x1))
                    refine wt_T_gd (wt_ix (by first | with_reducible assumption | omega) (by first | with_reducible assumption | omega)) ?_
                    refine wt_T_gd (wt_ix (by first | with_reducible assumption | omega) (by first | with_reducible assumption | omega)) ?_
                    have bb168 := wt_tn (wt_ga r160.2 275 (Int32.toNatClampNeg x1))
                    have bb169 := wt_tn z132.2.1
                    have g171 : 0 ≤ (wt_ga r160.2 (255 + (Int32.toNatClampNeg (wt_ga r160.2 275 (Int32.toNatClampNeg x1)))) (Int32.toNatClampNeg z132.2.1)).toInt ∧ (wt_ga r160.2 (255 + (Int32.toNatClampNeg (wt_ga r160.2 275 (Int32.toNatClampNeg x1)))) (Int32.toNatClampNeg z132.2.1)).toInt ≤ 59 := wt_Ra10 ri163 (255 + (Int32.toNatClampNeg (wt_ga r160.2 275 (Int32.toNatClampNeg x1)))) (show 255 ≤ 255 + (Int32.toNatClampNeg (wt_ga r160.2 275 (Int32.toNatClampNeg x1))) by omega) (show 255 + (Int32.toNatClampNeg (wt_ga r160.2 275 (Int32.toNatClampNeg x1))) < 263 by omega) (Int32.toNatClampNeg z132.2.1)
                    have tt172 : (wt_ga r160.2 (255 + (Int32.toNatClampNeg (wt_ga r160.2 275 (Int32.toNatClampNeg x1)))) (Int32.toNatClampNeg z132.2.1)).toInt = (wt_ga z132.2.2 (255 + (Int32.toNatClampNeg (wt_ga r160.2 275 (Int32.toNatClampNeg x1)))) (Int32.toNatClampNeg z132.2.1)).toInt := congrArg Int32.toInt (f162.2 (255 + (Int32.toNatClampNeg (wt_ga r160.2 275 (Int32.toNatClampNeg x1)))) (by (try dsimp only); omega) (Int32.toNatClampNeg z132.2.1))
                    have tt175 : (wt_ga z132.2.2 (255 + (Int32.toNatClampNeg (wt_ga r160.2 275 (Int32.toNatClampNeg x1)))) (Int32.toNatClampNeg z132.2.1)).toInt = (wt_ga r8.2 (255 + (Int32.toNatClampNeg (wt_ga r160.2 275 (Int32.toNatClampNeg x1)))) (Int32.toNatClampNeg z132.2.1)).toInt := congrArg Int32.toInt (l134.2 (255 + (Int32.toNatClampNeg (wt_ga r160.2 275 (Int32.toNatClampNeg x1)))) (by (try dsimp only); omega) (Int32.toNatClampNeg z132.2.1))
                    have tt178 : (wt_ga r8.2 (255 + (Int32.toNatClampNeg (wt_ga r160.2 275 (Int32.toNatClampNeg x1)))) (Int32.toNatClampNeg z132.2.1)).toInt = (wt_ga σ (255 + (Int32.toNatClampNeg (wt_ga r160.2 275 (Int32.toNatClampNeg x1)))) (Int32.toNatClampNeg z132.2.1)).toInt := congrArg Int32.toInt (f10.2 (255 + (Int32.toNatClampNeg (wt_ga r160.2 275 (Int32.toNatClampNeg x1)))) (fun z => z) (Int32.toNatClampNeg z132.2.1))
                    refine wt_T_if (fun h181 => ?_) (fun h181 => ?_)
                    · skip
                      have c182 := wt_ceq h181
                      unfold wp_md_page_B196
                      have bb183 := wt_bd z132.1
                      obtain ⟨j184, j184a, j184b⟩ := wt_addI z132.1 (0 : Int32)
                      have k185 : (1 : Int32).toInt = 1 := by decide
                      obtain ⟨j186, j186a, j186b⟩ := wt_addI z132.2.1 (1 : Int32)
                      refine hKK131 _ ⟨(wt_fr.tr (wt_fr.tr wt_fr.rf l134 (fun i k h => h.elim) (fun i h => by (try dsimp only at h); rcases h with h | h; exact Or.inl (by first | exact h | omega); exact Or.inr (by first | exact h | omega))) f162 (fun i k h => h.elim) (fun i h => by (try dsimp only at h); rcases h with h | h; exact Or.inl (by first | exact h | omega); exact Or.inr (by first | exact h | omega))), (show 0 ≤ ((z132.2.1 + (1 : Int32))).toInt by omega), ri163⟩ ?_
                      show (12 - (z132.2.1 + (1 : Int32)).toInt).toNat < (12 - z132.2.1.toInt).toNat
                      omega
                    · skip
                      have c187 := wt_nceq h181
                      unfold wp_md_page_B196
                      have bb188 := wt_bd z132.1
                      have k189 : (1 : Int32).toInt = 1 := by decide
                      obtain ⟨j190, j190a, j190b⟩ := wt_addI z132.1 (1 : Int32)
                      obtain ⟨j191, j191a, j191b⟩ := wt_addI z132.2.1 (1 : Int32)
                      refine hKK131 _ ⟨(wt_fr.tr (wt_fr.tr wt_fr.rf l134 (fun i k h => h.elim) (fun i h => by (try dsimp only at h); rcases h with h | h; exact Or.inl (by first | exact h | omega); exact Or.inr (by first | exact h | omega))) f162 (fun i k h => h.elim) (fun i h => by (try dsimp only at h); rcases h with h | h; exact Or.inl (by first | exact h | omega); exact Or.inr (by first | exact h | omega))), (show 0 ≤ ((z132.2.1 + (1 : Int32))).toInt by omega), ri163⟩ ?_
                      show (12 - (z132.2.1 + (1 : Int32)).toInt).toNat < (12 - z132.2.1.toInt).toNat
                      omega
                  · skip
                    have c192 := wt_nceq h158
                    refine wt_T_some ?_
                    exact ⟨(wt_fr.tr (wt_fr.tr wt_fr.rf f10 (fun i k h => by (try dsimp only at h); exact (by first | exact h | omega)) (fun i h => h.elim)) l134 (fun i k h => h.elim) (fun i h => by (try dsimp only at h); rcases h with h | h; exact Or.inl (by first | exact h | omega); exact Or.inr (by first | exact h | omega))), l136⟩
              · skip
                exact ⟨wt_fr.rf, (show 0 ≤ ((0 : Int32)).toInt by omega), ri11⟩
              · skip
                show (12 - (0 : Int32).toInt).toNat < n
                omega
        · skip
          have g194 : 0 ≤ (wt_ga r8.2 276 (Int32.toNatClampNeg x1)).toInt ∧ (wt_ga r8.2 276 (Int32.toNatClampNeg x1)).toInt ≤ 108 := wt_Ra13 ri11 276 (by decide) (by decide) (Int32.toNatClampNeg x1)
          have tt195 : (wt_ga r8.2 276 (Int32.toNatClampNeg x1)).toInt = (wt_ga σ 276 (Int32.toNatClampNeg x1)).toInt := congrArg Int32.toInt (f10.2 276 (fun z => z) (Int32.toNatClampNeg x1))
          exact ⟨rfl, (show 0 ≤ ((0 : Int32)).toInt by omega)⟩
        · skip
          have g199 : 0 ≤ (wt_ga r8.2 276 (Int32.toNatClampNeg x1)).toInt ∧ (wt_ga r8.2 276 (Int32.toNatClampNeg x1)).toInt ≤ 108 := wt_Ra13 ri11 276 (by decide) (by decide) (Int32.toNatClampNeg x1)
          have tt200 : (wt_ga r8.2 276 (Int32.toNatClampNeg x1)).toInt = (wt_ga σ 276 (Int32.toNatClampNeg x1)).toInt := congrArg Int32.toInt (f10.2 276 (fun z => z) (Int32.toNatClampNeg x1))
          show ((wt_ga r8.2 276 (Int32.toNatClampNeg x1)).toInt - (0 : Int32).toInt + 0).toNat < n
          omega
    · skip
      have c203 := wt_ncle h19
      refine wt_T_if (fun h204 => ?_) (fun h204 => ?_)
      · skip
        have c205 := wt_ceq h204
        refine wt_T_gd (wt_ix (by first | with_reducible assumption | omega) (by first | with_reducible assumption | omega)) ?_
        refine wt_T_some ?_
        exact ⟨(wt_fr.tr wt_fr.rf f10 (fun i k h => by (try dsimp only at h); exact (by first | exact h | omega)) (fun i h => h.elim)), ri11⟩
      · skip
        have c206 := wt_nceq h204
        refine wt_T_gd (wt_ix (by first | with_reducible assumption | omega) (by first | with_reducible assumption | omega)) ?_
        refine wt_T_some ?_
        exact ⟨(wt_fr.tr wt_fr.rf f10 (fun i k h => by (try dsimp only at h); exact (by first | exact h | omega)) (fun i h => h.elim)), ri11⟩
  · skip
    have c207 := wt_nceq h17
    refine wt_T_some ?_
    exact ⟨(wt_fr.tr wt_fr.rf f10 (fun i k h => by (try dsimp only at h); exact (by first | exact h | omega)) (fun i h => h.elim)), ri11⟩
set_option maxRecDepth 100000 in
set_option maxHeartbeats 4000000 in
theorem wq_md_page (n : Nat) (hn : 4294967297 < n) (x1 : Int32) (x2 : Int32) (σ : wt_St) (r0 : wt_RI σ) (p0 : wt_PG σ) : wt_T (wp_md_page n x1 x2 σ) (fun q => wt_fr (fun i k => (i = 108 ∧ k = 0)) (fun i => i = 290 ∨ i = 289) σ q.2 ∧ wt_RI q.2) := by
  have bb1 := wt_bd x1
  have bb2 := wt_bd x2
  unfold wp_md_page
  obtain ⟨σ3, eσ3⟩ : ∃ z : wt_St, z = wt_sf σ 108 0 (0 : Int32) := ⟨_, rfl⟩
  rw [← eσ3]
  have fσ3 := wt_fr_sf eσ3
  have vσ3 := wt_ceq (wt_v_sf eσ3)
  have k4 : (0 : Int32).toInt = 0 := by decide
  have rσ3 := wt_RI_fno r0 eσ3 (Or.inr (by decide +kernel))
  refine wt_T_bi (wq_md_isPage n hn x1 σ3 rσ3) (fun r5 h6 => ?_)
  obtain ⟨e7, pp8⟩ := h6
  have bb9 := wt_bd r5.1
  rw [e7]
  have bb10 := wt_tn x1
  have g12 : -1 ≤ (wt_ga σ3 275 (Int32.toNatClampNeg x1)).toInt ∧ (wt_ga σ3 275 (Int32.toNatClampNeg x1)).toInt ≤ 7 := wt_Ra12 rσ3 275 (by decide) (by decide) (Int32.toNatClampNeg x1)
  have tt13 : (wt_ga σ3 275 (Int32.toNatClampNeg x1)).toInt = (wt_ga σ 275 (Int32.toNatClampNeg x1)).toInt := congrArg Int32.toInt (fσ3.2 275 (fun z => z) (Int32.toNatClampNeg x1))
  refine wt_T_if (fun h16 => ?_) (fun h16 => ?_)
  · skip
    have c17 := wt_ceq h16
    unfold wp_md_page_B19
    have k18 : (1 : Int32).toInt = 1 := by decide
    refine wt_T_bi (wq_md_bad n hn (1 : Int32) (1 : Int32) σ3 rσ3 (by first | with_reducible assumption | omega)) (fun r19 h20 => ?_)
    obtain ⟨f21, ri22, pp23⟩ := h20
    have bb24 := wt_bd r19.1
    have bb25 := wt_bd (wt_gf r19.2 108 0)
    have bb26 := wt_bd (wt_gf σ3 108 0)
    refine wt_T_if (fun h27 => ?_) (fun h27 => ?_)
    · skip
      have c28 := wt_ceq h27
      have k29 : (4 : Int32).toInt = 4 := by decide
      refine wt_T_bi (wq_md_in n hn x2 (0 : Int32) (4 : Int32) r19.2 ri22) (fun r30 h31 => ?_)
      obtain ⟨e32, pp33⟩ := h31
      have bb34 := wt_bd r30.1
      rw [e32]
      refine wt_T_if (fun h35 => ?_) (fun h35 => ?_)
      · skip
        have c36 := wt_ceq h35
        have g38 : -1 ≤ (wt_ga r19.2 275 (Int32.toNatClampNeg x1)).toInt ∧ (wt_ga r19.2 275 (Int32.toNatClampNeg x1)).toInt ≤ 7 := wt_Ra12 ri22 275 (by decide) (by decide) (Int32.toNatClampNeg x1)
        have tt39 : (wt_ga r19.2 275 (Int32.toNatClampNeg x1)).toInt = (wt_ga σ3 275 (Int32.toNatClampNeg x1)).toInt := congrArg Int32.toInt (f21.2 275 (fun z => z) (Int32.toNatClampNeg x1))
        refine wt_T.imp (wq_md_page_B41 n hn x1 x2 (1 : Int32) r19.2 ri22 (by first | with_reducible assumption | omega) (wt_PG_fr (F := fun i k => (i = 108 ∧ k = 0)) (A := fun i => i = 290 ∨ i = 289) r0 p0 (wt_fr.tr (wt_fr.tr wt_fr.rf fσ3 (fun i k h => by (try dsimp only at h); exact (by first | exact h | omega)) (fun i h => h.elim)) f21 (fun i k h => by (try dsimp only at h); exact (by first | exact h | omega)) (fun i h => h.elim)) (by (try dsimp only); first | omega | exact fun h => h) (fun i hi => by (try dsimp only); unfold wt_PA at hi; omega))) (fun r40 h41 => ?_)
        have bb42 := wt_bd r40.1
        obtain ⟨f43, ri44⟩ := h41
        exact ⟨(wt_fr.tr (wt_fr.tr (wt_fr.tr wt_fr.rf fσ3 (fun i k h => by (try dsimp only at h); exact (by first | exact h | omega)) (fun i h => h.elim)) f21 (fun i k h => by (try dsimp only at h); exact (by first | exact h | omega)) (fun i h => h.elim)) f43 (fun i k h => by (try dsimp only at h); exact (by first | exact h | omega)) (fun i h => by (try dsimp only at h); rcases h with h | h; exact Or.inl (by first | exact h | omega); exact Or.inr (by first | exact h | omega))), ri44⟩
      · skip
        have c45 := wt_nceq h35
        have g47 : -1 ≤ (wt_ga r19.2 275 (Int32.toNatClampNeg x1)).toInt ∧ (wt_ga r19.2 275 (Int32.toNatClampNeg x1)).toInt ≤ 7 := wt_Ra12 ri22 275 (by decide) (by decide) (Int32.toNatClampNeg x1)
        have tt48 : (wt_ga r19.2 275 (Int32.toNatClampNeg x1)).toInt = (wt_ga σ3 275 (Int32.toNatClampNeg x1)).toInt := congrArg Int32.toInt (f21.2 275 (fun z => z) (Int32.toNatClampNeg x1))
        refine wt_T.imp (wq_md_page_B41 n hn x1 x2 (0 : Int32) r19.2 ri22 (by first | with_reducible assumption | omega) (wt_PG_fr (F := fun i k => (i = 108 ∧ k = 0)) (A := fun i => i = 290 ∨ i = 289) r0 p0 (wt_fr.tr (wt_fr.tr wt_fr.rf fσ3 (fun i k h => by (try dsimp only at h); exact (by first | exact h | omega)) (fun i h => h.elim)) f21 (fun i k h => by (try dsimp only at h); exact (by first | exact h | omega)) (fun i h => h.elim)) (by (try dsimp only); first | omega | exact fun h => h) (fun i hi => by (try dsimp only); unfold wt_PA at hi; omega))) (fun r49 h50 => ?_)
        have bb51 := wt_bd r49.1
        obtain ⟨f52, ri53⟩ := h50
        exact ⟨(wt_fr.tr (wt_fr.tr (wt_fr.tr wt_fr.rf fσ3 (fun i k h => by (try dsimp only at h); exact (by first | exact h | omega)) (fun i h => h.elim)) f21 (fun i k h => by (try dsimp only at h); exact (by first | exact h | omega)) (fun i h => h.elim)) f52 (fun i k h => by (try dsimp only at h); exact (by first | exact h | omega)) (fun i h => by (try dsimp only at h); rcases h with h | h; exact Or.inl (by first | exact h | omega); exact Or.inr (by first | exact h | omega))), ri53⟩
    · skip
      have c54 := wt_nceq h27
      refine wt_T_some ?_
      exact ⟨(wt_fr.tr (wt_fr.tr wt_fr.rf fσ3 (fun i k h => by (try dsimp only at h); exact (by first | exact h | omega)) (fun i h => h.elim)) f21 (fun i k h => by (try dsimp only at h); exact (by first | exact h | omega)) (fun i h => h.elim)), ri22⟩
  · skip
    have c55 := wt_nceq h16
    unfold wp_md_page_B19
    have k56 : (1 : Int32).toInt = 1 := by decide
    refine wt_T_bi (wq_md_bad n hn (0 : Int32) (1 : Int32) σ3 rσ3 (by first | with_reducible assumption | omega)) (fun r57 h58 => ?_)
    obtain ⟨f59, ri60, pp61⟩ := h58
    have bb62 := wt_bd r57.1
    have bb63 := wt_bd (wt_gf r57.2 108 0)
    have bb64 := wt_bd (wt_gf σ3 108 0)
    refine wt_T_if (fun h65 => ?_) (fun h65 => ?_)
    · skip
      have c66 := wt_ceq h65
      have k67 : (4 : Int32).toInt = 4 := by decide
      refine wt_T_bi (wq_md_in n hn x2 (0 : Int32) (4 : Int32) r57.2 ri60) (fun r68 h69 => ?_)
      obtain ⟨e70, pp71⟩ := h69
      have bb72 := wt_bd r68.1
      rw [e70]
      refine wt_T_if (fun h73 => ?_) (fun h73 => ?_)
      · skip
        have c74 := wt_ceq h73
        have g76 : -1 ≤ (wt_ga r57.2 275 (Int32.toNatClampNeg x1)).toInt ∧ (wt_ga r57.2 275 (Int32.toNatClampNeg x1)).toInt ≤ 7 := wt_Ra12 ri60 275 (by decide) (by decide) (Int32.toNatClampNeg x1)
        have tt77 : (wt_ga r57.2 275 (Int32.toNatClampNeg x1)).toInt = (wt_ga σ3 275 (Int32.toNatClampNeg x1)).toInt := congrArg Int32.toInt (f59.2 275 (fun z => z) (Int32.toNatClampNeg x1))
        refine wt_T.imp (wq_md_page_B41 n hn x1 x2 (1 : Int32) r57.2 ri60 (by first | with_reducible assumption | omega) (wt_PG_fr (F := fun i k => (i = 108 ∧ k = 0)) (A := fun i => i = 290 ∨ i = 289) r0 p0 (wt_fr.tr (wt_fr.tr wt_fr.rf fσ3 (fun i k h => by (try dsimp only at h); exact (by first | exact h | omega)) (fun i h => h.elim)) f59 (fun i k h => by (try dsimp only at h); exact (by first | exact h | omega)) (fun i h => h.elim)) (by (try dsimp only); first | omega | exact fun h => h) (fun i hi => by (try dsimp only); unfold wt_PA at hi; omega))) (fun r78 h79 => ?_)
        have bb80 := wt_bd r78.1
        obtain ⟨f81, ri82⟩ := h79
        exact ⟨(wt_fr.tr (wt_fr.tr (wt_fr.tr wt_fr.rf fσ3 (fun i k h => by (try dsimp only at h); exact (by first | exact h | omega)) (fun i h => h.elim)) f59 (fun i k h => by (try dsimp only at h); exact (by first | exact h | omega)) (fun i h => h.elim)) f81 (fun i k h => by (try dsimp only at h); exact (by first | exact h | omega)) (fun i h => by (try dsimp only at h); rcases h with h | h; exact Or.inl (by first | exact h | omega); exact Or.inr (by first | exact h | omega))), ri82⟩
      · skip
        have c83 := wt_nceq h73
        have g85 : -1 ≤ (wt_ga r57.2 275 (Int32.toNatClampNeg x1)).toInt ∧ (wt_ga r57.2 275 (Int32.toNatClampNeg x1)).toInt ≤ 7 := wt_Ra12 ri60 275 (by decide) (by decide) (Int32.toNatClampNeg x1)
        have tt86 : (wt_ga r57.2 275 (Int32.toNatClampNeg x1)).toInt = (wt_ga σ3 275 (Int32.toNatClampNeg x1)).toInt := congrArg Int32.toInt (f59.2 275 (fun z => z) (Int32.toNatClampNeg x1))
        refine wt_T.imp (wq_md_page_B41 n hn x1 x2 (0 : Int32) r57.2 ri60 (by first | with_reducible assumption | omega) (wt_PG_fr (F := fun i k => (i = 108 ∧ k = 0)) (A := fun i => i = 290 ∨ i = 289) r0 p0 (wt_fr.tr (wt_fr.tr wt_fr.rf fσ3 (fun i k h => by (try dsimp only at h); exact (by first | exact h | omega)) (fun i h => h.elim)) f59 (fun i k h => by (try dsimp only at h); exact (by first | exact h | omega)) (fun i h => h.elim)) (by (try dsimp only); first | omega | exact fun h => h) (fun i hi => by (try dsimp only); unfold wt_PA at hi; omega))) (fun r87 h88 => ?_)
        have bb89 := wt_bd r87.1
        obtain ⟨f90, ri91⟩ := h88
        exact ⟨(wt_fr.tr (wt_fr.tr (wt_fr.tr wt_fr.rf fσ3 (fun i k h => by (try dsimp only at h); exact (by first | exact h | omega)) (fun i h => h.elim)) f59 (fun i k h => by (try dsimp only at h); exact (by first | exact h | omega)) (fun i h => h.elim)) f90 (fun i k h => by (try dsimp only at h); exact (by first | exact h | omega)) (fun i h => by (try dsimp only at h); rcases h with h | h; exact Or.inl (by first | exact h | omega); exact Or.inr (by first | exact h | omega))), ri91⟩
    · skip
      have c92 := wt_nceq h65
      refine wt_T_some ?_
      exact ⟨(wt_fr.tr (wt_fr.tr wt_fr.rf fσ3 (fun i k h => by (try dsimp only at h); exact (by first | exact h | omega)) (fun i h => h.elim)) f59 (fun i k h => by (try dsimp only at h); exact (by first | exact h | omega)) (fun i h => h.elim)), ri60⟩
set_option maxRecDepth 100000 in
set_option maxHeartbeats 4000000 in
theorem wq_md_piece_B69 (n : Nat) (hn : 4294967297 < n) (x1 : Int32) (x2 : Int32) (x3 : Int32) (y1 : Int32) (σ : wt_St) (r0 : wt_RI σ) (p0 : y1.toInt ≠ 0 ∨ (0 ≤ x1.toInt ∧ x1.toInt ≤ 25 ∧ 0 ≤ x2.toInt ∧ x2.toInt ≤ 12)) : wt_T (wp_md_piece_B69 n x1 x2 x3 y1 σ) (fun q => wt_fr (fun i k => (i = 108 ∧ k = 0)) (fun i => False) σ q.2 ∧ wt_RI q.2) := by
  have bb1 := wt_bd x1
  have bb2 := wt_bd x2
  have bb3 := wt_bd x3
  have bb4 := wt_bd y1
  unfold wp_md_piece_B69
  have k5 : (2 : Int32).toInt = 2 := by decide
  refine wt_T_bi (wq_md_bad n hn y1 (2 : Int32) σ r0 (by first | with_reducible assumption | omega)) (fun r6 h7 => ?_)
  obtain ⟨f8, ri9, pp10⟩ := h7
  have bb11 := wt_bd r6.1
  have bb12 := wt_bd (wt_gf r6.2 108 0)
  have bb13 := wt_bd (wt_gf σ 108 0)
  have k14 : (0 : Int32).toInt = 0 := by decide
  refine wt_T_if (fun h15 => ?_) (fun h15 => ?_)
  · skip
    have c16 := wt_ceq h15
    refine wt_T_if (fun h17 => ?_) (fun h17 => ?_)
    · skip
      have c18 := wt_ceq h17
      refine wt_T_bi (wq_md_cell n hn x1 x2 r6.2 ri9 (by first | with_reducible assumption | omega) (by first | with_reducible assumption | omega) (by first | with_reducible assumption | omega) (by first | with_reducible assumption | omega)) (fun r19 h20 => ?_)
      obtain ⟨e21, pp22⟩ := h20
      have bb23 := wt_bd r19.1
      rw [e21]
      refine wt_T_gd (wt_ix (by first | with_reducible assumption | omega) (by first | with_reducible assumption | omega)) ?_
      refine wt_T_some ?_
      exact ⟨(wt_fr.tr wt_fr.rf f8 (fun i k h => by (try dsimp only at h); exact (by first | exact h | omega)) (fun i h => h.elim)), ri9⟩
    · skip
      have c24 := wt_nceq h17
      refine wt_T_bi (wq_md_cell n hn x1 x2 r6.2 ri9 (by first | with_reducible assumption | omega) (by first | with_reducible assumption | omega) (by first | with_reducible assumption | omega) (by first | with_reducible assumption | omega)) (fun r25 h26 => ?_)
      obtain ⟨e27, pp28⟩ := h26
      have bb29 := wt_bd r25.1
      rw [e27]
      refine wt_T_gd (wt_ix (by first | with_reducible assumption | omega) (by first | with_reducible assumption | omega)) ?_
      refine wt_T_some ?_
      exact ⟨(wt_fr.tr wt_fr.rf f8 (fun i k h => by (try dsimp only at h); exact (by first | exact h | omega)) (fun i h => h.elim)), ri9⟩
  · skip
    have c30 := wt_nceq h15
    refine wt_T_some ?_
    exact ⟨(wt_fr.tr wt_fr.rf f8 (fun i k h => by (try dsimp only at h); exact (by first | exact h | omega)) (fun i h => h.elim)), ri9⟩
set_option maxRecDepth 100000 in
set_option maxHeartbeats 4000000 in
theorem wq_md_piece (n : Nat) (hn : 4294967297 < n) (x1 : Int32) (x2 : Int32) (x3 : Int32) (σ : wt_St) (r0 : wt_RI σ) : wt_T (wp_md_piece n x1 x2 x3 σ) (fun q => wt_fr (fun i k => (i = 108 ∧ k = 0)) (fun i => False) σ q.2 ∧ wt_RI q.2) := by
  have bb1 := wt_bd x1
  have bb2 := wt_bd x2
  have bb3 := wt_bd x3
  unfold wp_md_piece
  obtain ⟨σ4, eσ4⟩ : ∃ z : wt_St, z = wt_sf σ 108 0 (0 : Int32) := ⟨_, rfl⟩
  rw [← eσ4]
  have fσ4 := wt_fr_sf eσ4
  have vσ4 := wt_ceq (wt_v_sf eσ4)
  have k5 : (0 : Int32).toInt = 0 := by decide
  have rσ4 := wt_RI_fno r0 eσ4 (Or.inr (by decide +kernel))
  refine wt_T_bi (wq_md_isLetter n hn x1 σ4 rσ4) (fun r6 h7 => ?_)
  obtain ⟨e8, pp9⟩ := h7
  have bb10 := wt_bd r6.1
  rw [e8]
  refine wt_T_if (fun h11 => ?_) (fun h11 => ?_)
  · skip
    have c12 := wt_ceq h11
    unfold wp_md_piece_B18
    have k13 : (1 : Int32).toInt = 1 := by decide
    have k14 : (2 : Int32).toInt = 2 := by decide
    refine wt_T_bi (wq_md_bad n hn (1 : Int32) (2 : Int32) σ4 rσ4 (by first | with_reducible assumption | omega)) (fun r15 h16 => ?_)
    obtain ⟨f17, ri18, pp19⟩ := h16
    have bb20 := wt_bd r15.1
    have bb21 := wt_bd (wt_gf r15.2 108 0)
    have bb22 := wt_bd (wt_gf σ4 108 0)
    refine wt_T_if (fun h23 => ?_) (fun h23 => ?_)
    · skip
      have c24 := wt_ceq h23
      refine wt_T_gd (wt_ix (by first | with_reducible assumption | omega) (by first | with_reducible assumption | omega)) ?_
      have bb25 := wt_tn x1
      have g27 : 0 ≤ (wt_ga r15.2 111 (Int32.toNatClampNeg x1)).toInt ∧ (wt_ga r15.2 111 (Int32.toNatClampNeg x1)).toInt ≤ 13 := wt_Ra1 ri18 111 (by decide) (by decide) (Int32.toNatClampNeg x1)
      have tt28 : (wt_ga r15.2 111 (Int32.toNatClampNeg x1)).toInt = (wt_ga σ4 111 (Int32.toNatClampNeg x1)).toInt := congrArg Int32.toInt (f17.2 111 (fun z => z) (Int32.toNatClampNeg x1))
      have tt31 : (wt_ga σ4 111 (Int32.toNatClampNeg x1)).toInt = (wt_ga σ 111 (Int32.toNatClampNeg x1)).toInt := congrArg Int32.toInt (fσ4.2 111 (fun z => z) (Int32.toNatClampNeg x1))
      obtain ⟨j34, j34a, j34b⟩ := wt_subI (wt_ga r15.2 111 (Int32.toNatClampNeg x1)) (1 : Int32)
      refine wt_T_bi (wq_md_in n hn x2 (0 : Int32) ((wt_ga r15.2 111 (Int32.toNatClampNeg x1)) - (1 : Int32)) r15.2 ri18) (fun r35 h36 => ?_)
      obtain ⟨e37, pp38⟩ := h36
      have bb39 := wt_bd r35.1
      rw [e37]
      refine wt_T_if (fun h40 => ?_) (fun h40 => ?_)
      · skip
        have c41 := wt_ceq h40
        unfold wp_md_piece_B47
        refine wt_T_bi (wq_md_bad n hn (1 : Int32) (1 : Int32) r15.2 ri18 (by first | with_reducible assumption | omega)) (fun r42 h43 => ?_)
        obtain ⟨f44, ri45, pp46⟩ := h43
        have bb47 := wt_bd r42.1
        have bb48 := wt_bd (wt_gf r42.2 108 0)
        refine wt_T_if (fun h49 => ?_) (fun h49 => ?_)
        · skip
          have c50 := wt_ceq h49
          refine wt_T_bi (wq_md_in n hn x3 (0 : Int32) (1 : Int32) r42.2 ri45) (fun r51 h52 => ?_)
          obtain ⟨e53, pp54⟩ := h52
          have bb55 := wt_bd r51.1
          rw [e53]
          refine wt_T_if (fun h56 => ?_) (fun h56 => ?_)
          · skip
            have c57 := wt_ceq h56
            refine wt_T.imp (wq_md_piece_B69 n hn x1 x2 x3 (1 : Int32) r42.2 ri45 (by first | with_reducible assumption | omega)) (fun r58 h59 => ?_)
            have bb60 := wt_bd r58.1
            obtain ⟨f61, ri62⟩ := h59
            exact ⟨(wt_fr.tr (wt_fr.tr (wt_fr.tr (wt_fr.tr wt_fr.rf fσ4 (fun i k h => by (try dsimp only at h); exact (by first | exact h | omega)) (fun i h => h.elim)) f17 (fun i k h => by (try dsimp only at h); exact (by first | exact h | omega)) (fun i h => h.elim)) f44 (fun i k h => by (try dsimp only at h); exact (by first | exact h | omega)) (fun i h => h.elim)) f61 (fun i k h => by (try dsimp only at h); exact (by first | exact h | omega)) (fun i h => h.elim)), ri62⟩
          · skip
            have c63 := wt_nceq h56
            refine wt_T.imp (wq_md_piece_B69 n hn x1 x2 x3 (0 : Int32) r42.2 ri45 (by first | with_reducible assumption | omega)) (fun r64 h65 => ?_)
            have bb66 := wt_bd r64.1
            obtain ⟨f67, ri68⟩ := h65
            exact ⟨(wt_fr.tr (wt_fr.tr (wt_fr.tr (wt_fr.tr wt_fr.rf fσ4 (fun i k h => by (try dsimp only at h); exact (by first | exact h | omega)) (fun i h => h.elim)) f17 (fun i k h => by (try dsimp only at h); exact (by first | exact h | omega)) (fun i h => h.elim)) f44 (fun i k h => by (try dsimp only at h); exact (by first | exact h | omega)) (fun i h => h.elim)) f67 (fun i k h => by (try dsimp only at h); exact (by first | exact h | omega)) (fun i h => h.elim)), ri68⟩
        · skip
          have c69 := wt_nceq h49
          refine wt_T_some ?_
          exact ⟨(wt_fr.tr (wt_fr.tr (wt_fr.tr wt_fr.rf fσ4 (fun i k h => by (try dsimp only at h); exact (by first | exact h | omega)) (fun i h => h.elim)) f17 (fun i k h => by (try dsimp only at h); exact (by first | exact h | omega)) (fun i h => h.elim)) f44 (fun i k h => by (try dsimp only at h); exact (by first | exact h | omega)) (fun i h => h.elim)), ri45⟩
      · skip
        have c70 := wt_nceq h40
        unfold wp_md_piece_B47
        refine wt_T_bi (wq_md_bad n hn (0 : Int32) (1 : Int32) r15.2 ri18 (by first | with_reducible assumption | omega)) (fun r71 h72 => ?_)
        obtain ⟨f73, ri74, pp75⟩ := h72
        have bb76 := wt_bd r71.1
        have bb77 := wt_bd (wt_gf r71.2 108 0)
        refine wt_T_if (fun h78 => ?_) (fun h78 => ?_)
        · skip
          have c79 := wt_ceq h78
          refine wt_T_bi (wq_md_in n hn x3 (0 : Int32) (1 : Int32) r71.2 ri74) (fun r80 h81 => ?_)
          obtain ⟨e82, pp83⟩ := h81
          have bb84 := wt_bd r80.1
          rw [e82]
          refine wt_T_if (fun h85 => ?_) (fun h85 => ?_)
          · skip
            have c86 := wt_ceq h85
            refine wt_T.imp (wq_md_piece_B69 n hn x1 x2 x3 (1 : Int32) r71.2 ri74 (by first | with_reducible assumption | omega)) (fun r87 h88 => ?_)
            have bb89 := wt_bd r87.1
            obtain ⟨f90, ri91⟩ := h88
            exact ⟨(wt_fr.tr (wt_fr.tr (wt_fr.tr (wt_fr.tr wt_fr.rf fσ4 (fun i k h => by (try dsimp only at h); exact (by first | exact h | omega)) (fun i h => h.elim)) f17 (fun i k h => by (try dsimp only at h); exact (by first | exact h | omega)) (fun i h => h.elim)) f73 (fun i k h => by (try dsimp only at h); exact (by first | exact h | omega)) (fun i h => h.elim)) f90 (fun i k h => by (try dsimp only at h); exact (by first | exact h | omega)) (fun i h => h.elim)), ri91⟩
          · skip
            have c92 := wt_nceq h85
            refine wt_T.imp (wq_md_piece_B69 n hn x1 x2 x3 (0 : Int32) r71.2 ri74 (by first | with_reducible assumption | omega)) (fun r93 h94 => ?_)
            have bb95 := wt_bd r93.1
            obtain ⟨f96, ri97⟩ := h94
            exact ⟨(wt_fr.tr (wt_fr.tr (wt_fr.tr (wt_fr.tr wt_fr.rf fσ4 (fun i k h => by (try dsimp only at h); exact (by first | exact h | omega)) (fun i h => h.elim)) f17 (fun i k h => by (try dsimp only at h); exact (by first | exact h | omega)) (fun i h => h.elim)) f73 (fun i k h => by (try dsimp only at h); exact (by first | exact h | omega)) (fun i h => h.elim)) f96 (fun i k h => by (try dsimp only at h); exact (by first | exact h | omega)) (fun i h => h.elim)), ri97⟩
        · skip
          have c98 := wt_nceq h78
          refine wt_T_some ?_
          exact ⟨(wt_fr.tr (wt_fr.tr (wt_fr.tr wt_fr.rf fσ4 (fun i k h => by (try dsimp only at h); exact (by first | exact h | omega)) (fun i h => h.elim)) f17 (fun i k h => by (try dsimp only at h); exact (by first | exact h | omega)) (fun i h => h.elim)) f73 (fun i k h => by (try dsimp only at h); exact (by first | exact h | omega)) (fun i h => h.elim)), ri74⟩
    · skip
      have c99 := wt_nceq h23
      refine wt_T_some ?_
      exact ⟨(wt_fr.tr (wt_fr.tr wt_fr.rf fσ4 (fun i k h => by (try dsimp only at h); exact (by first | exact h | omega)) (fun i h => h.elim)) f17 (fun i k h => by (try dsimp only at h); exact (by first | exact h | omega)) (fun i h => h.elim)), ri18⟩
  · skip
    have c100 := wt_nceq h11
    unfold wp_md_piece_B18
    have k101 : (2 : Int32).toInt = 2 := by decide
    refine wt_T_bi (wq_md_bad n hn (0 : Int32) (2 : Int32) σ4 rσ4 (by first | with_reducible assumption | omega)) (fun r102 h103 => ?_)
    obtain ⟨f104, ri105, pp106⟩ := h103
    have bb107 := wt_bd r102.1
    have bb108 := wt_bd (wt_gf r102.2 108 0)
    have bb109 := wt_bd (wt_gf σ4 108 0)
    refine wt_T_if (fun h110 => ?_) (fun h110 => ?_)
    · skip
      have c111 := wt_ceq h110
      refine wt_T_gd (wt_ix (by first | with_reducible assumption | omega) (by first | with_reducible assumption | omega)) ?_
      have bb112 := wt_tn x1
      have g114 : 0 ≤ (wt_ga r102.2 111 (Int32.toNatClampNeg x1)).toInt ∧ (wt_ga r102.2 111 (Int32.toNatClampNeg x1)).toInt ≤ 13 := wt_Ra1 ri105 111 (by decide) (by decide) (Int32.toNatClampNeg x1)
      have tt115 : (wt_ga r102.2 111 (Int32.toNatClampNeg x1)).toInt = (wt_ga σ4 111 (Int32.toNatClampNeg x1)).toInt := congrArg Int32.toInt (f104.2 111 (fun z => z) (Int32.toNatClampNeg x1))
      have tt118 : (wt_ga σ4 111 (Int32.toNatClampNeg x1)).toInt = (wt_ga σ 111 (Int32.toNatClampNeg x1)).toInt := congrArg Int32.toInt (fσ4.2 111 (fun z => z) (Int32.toNatClampNeg x1))
      have k121 : (1 : Int32).toInt = 1 := by decide
      obtain ⟨j122, j122a, j122b⟩ := wt_subI (wt_ga r102.2 111 (Int32.toNatClampNeg x1)) (1 : Int32)
      refine wt_T_bi (wq_md_in n hn x2 (0 : Int32) ((wt_ga r102.2 111 (Int32.toNatClampNeg x1)) - (1 : Int32)) r102.2 ri105) (fun r123 h124 => ?_)
      obtain ⟨e125, pp126⟩ := h124
      have bb127 := wt_bd r123.1
      rw [e125]
      refine wt_T_if (fun h128 => ?_) (fun h128 => ?_)
      · skip
        have c129 := wt_ceq h128
        unfold wp_md_piece_B47
        refine wt_T_bi (wq_md_bad n hn (1 : Int32) (1 : Int32) r102.2 ri105 (by first | with_reducible assumption | omega)) (fun r130 h131 => ?_)
        obtain ⟨f132, ri133, pp134⟩ := h131
        have bb135 := wt_bd r130.1
        have bb136 := wt_bd (wt_gf r130.2 108 0)
        refine wt_T_if (fun h137 => ?_) (fun h137 => ?_)
        · skip
          have c138 := wt_ceq h137
          refine wt_T_bi (wq_md_in n hn x3 (0 : Int32) (1 : Int32) r130.2 ri133) (fun r139 h140 => ?_)
          obtain ⟨e141, pp142⟩ := h140
          have bb143 := wt_bd r139.1
          rw [e141]
          refine wt_T_if (fun h144 => ?_) (fun h144 => ?_)
          · skip
            have c145 := wt_ceq h144
            refine wt_T.imp (wq_md_piece_B69 n hn x1 x2 x3 (1 : Int32) r130.2 ri133 (by first | with_reducible assumption | omega)) (fun r146 h147 => ?_)
            have bb148 := wt_bd r146.1
            obtain ⟨f149, ri150⟩ := h147
            exact ⟨(wt_fr.tr (wt_fr.tr (wt_fr.tr (wt_fr.tr wt_fr.rf fσ4 (fun i k h => by (try dsimp only at h); exact (by first | exact h | omega)) (fun i h => h.elim)) f104 (fun i k h => by (try dsimp only at h); exact (by first | exact h | omega)) (fun i h => h.elim)) f132 (fun i k h => by (try dsimp only at h); exact (by first | exact h | omega)) (fun i h => h.elim)) f149 (fun i k h => by (try dsimp only at h); exact (by first | exact h | omega)) (fun i h => h.elim)), ri150⟩
          · skip
            have c151 := wt_nceq h144
            refine wt_T.imp (wq_md_piece_B69 n hn x1 x2 x3 (0 : Int32) r130.2 ri133 (by first | with_reducible assumption | omega)) (fun r152 h153 => ?_)
            have bb154 := wt_bd r152.1
            obtain ⟨f155, ri156⟩ := h153
            exact ⟨(wt_fr.tr (wt_fr.tr (wt_fr.tr (wt_fr.tr wt_fr.rf fσ4 (fun i k h => by (try dsimp only at h); exact (by first | exact h | omega)) (fun i h => h.elim)) f104 (fun i k h => by (try dsimp only at h); exact (by first | exact h | omega)) (fun i h => h.elim)) f132 (fun i k h => by (try dsimp only at h); exact (by first | exact h | omega)) (fun i h => h.elim)) f155 (fun i k h => by (try dsimp only at h); exact (by first | exact h | omega)) (fun i h => h.elim)), ri156⟩
        · skip
          have c157 := wt_nceq h137
          refine wt_T_some ?_
          exact ⟨(wt_fr.tr (wt_fr.tr (wt_fr.tr wt_fr.rf fσ4 (fun i k h => by (try dsimp only at h); exact (by first | exact h | omega)) (fun i h => h.elim)) f104 (fun i k h => by (try dsimp only at h); exact (by first | exact h | omega)) (fun i h => h.elim)) f132 (fun i k h => by (try dsimp only at h); exact (by first | exact h | omega)) (fun i h => h.elim)), ri133⟩
      · skip
        have c158 := wt_nceq h128
        unfold wp_md_piece_B47
        refine wt_T_bi (wq_md_bad n hn (0 : Int32) (1 : Int32) r102.2 ri105 (by first | with_reducible assumption | omega)) (fun r159 h160 => ?_)
        obtain ⟨f161, ri162, pp163⟩ := h160
        have bb164 := wt_bd r159.1
        have bb165 := wt_bd (wt_gf r159.2 108 0)
        refine wt_T_if (fun h166 => ?_) (fun h166 => ?_)
        · skip
          have c167 := wt_ceq h166
          refine wt_T_bi (wq_md_in n hn x3 (0 : Int32) (1 : Int32) r159.2 ri162) (fun r168 h169 => ?_)
          obtain ⟨e170, pp171⟩ := h169
          have bb172 := wt_bd r168.1
          rw [e170]
          refine wt_T_if (fun h173 => ?_) (fun h173 => ?_)
          · skip
            have c174 := wt_ceq h173
            refine wt_T.imp (wq_md_piece_B69 n hn x1 x2 x3 (1 : Int32) r159.2 ri162 (by first | with_reducible assumption | omega)) (fun r175 h176 => ?_)
            have bb177 := wt_bd r175.1
            obtain ⟨f178, ri179⟩ := h176
            exact ⟨(wt_fr.tr (wt_fr.tr (wt_fr.tr (wt_fr.tr wt_fr.rf fσ4 (fun i k h => by (try dsimp only at h); exact (by first | exact h | omega)) (fun i h => h.elim)) f104 (fun i k h => by (try dsimp only at h); exact (by first | exact h | omega)) (fun i h => h.elim)) f161 (fun i k h => by (try dsimp only at h); exact (by first | exact h | omega)) (fun i h => h.elim)) f178 (fun i k h => by (try dsimp only at h); exact (by first | exact h | omega)) (fun i h => h.elim)), ri179⟩
          · skip
            have c180 := wt_nceq h173
            refine wt_T.imp (wq_md_piece_B69 n hn x1 x2 x3 (0 : Int32) r159.2 ri162 (by first | with_reducible assumption | omega)) (fun r181 h182 => ?_)
            have bb183 := wt_bd r181.1
            obtain ⟨f184, ri185⟩ := h182
            exact ⟨(wt_fr.tr (wt_fr.tr (wt_fr.tr (wt_fr.tr wt_fr.rf fσ4 (fun i k h => by (try dsimp only at h); exact (by first | exact h | omega)) (fun i h => h.elim)) f104 (fun i k h => by (try dsimp only at h); exact (by first | exact h | omega)) (fun i h => h.elim)) f161 (fun i k h => by (try dsimp only at h); exact (by first | exact h | omega)) (fun i h => h.elim)) f184 (fun i k h => by (try dsimp only at h); exact (by first | exact h | omega)) (fun i h => h.elim)), ri185⟩
        · skip
          have c186 := wt_nceq h166
          refine wt_T_some ?_
          exact ⟨(wt_fr.tr (wt_fr.tr (wt_fr.tr wt_fr.rf fσ4 (fun i k h => by (try dsimp only at h); exact (by first | exact h | omega)) (fun i h => h.elim)) f104 (fun i k h => by (try dsimp only at h); exact (by first | exact h | omega)) (fun i h => h.elim)) f161 (fun i k h => by (try dsimp only at h); exact (by first | exact h | omega)) (fun i h => h.elim)), ri162⟩
    · skip
      have c187 := wt_nceq h110
      refine wt_T_some ?_
      exact ⟨(wt_fr.tr (wt_fr.tr wt_fr.rf fσ4 (fun i k h => by (try dsimp only at h); exact (by first | exact h | omega)) (fun i h => h.elim)) f104 (fun i k h => by (try dsimp only at h); exact (by first | exact h | omega)) (fun i h => h.elim)), ri105⟩
set_option maxRecDepth 100000 in
set_option maxHeartbeats 4000000 in
theorem wq_md_leastOfP (n : Nat) (hn : 4294967297 < n) (x1 : Int32) (σ : wt_St) (r0 : wt_RI σ) (p0 : 0 ≤ x1.toInt) (p1 : x1.toInt ≤ 3) : wt_T (wp_md_leastOf n x1 σ) (fun q => q.2 = σ ∧ ∀ k : Nat, (k : Int) < (wt_ga σ 276 (Int32.toNatClampNeg x1)).toInt → q.1.toInt ≤ (wt_ga σ 121 (Int32.toNatClampNeg (wt_ga σ (278 + Int32.toNatClampNeg x1) k))).toInt) := by
  unfold wp_md_leastOf
  have k0 : (0 : Int32).toInt = 0 := by decide
  have hx := wt_tnI p0
  have gm : 0 ≤ (wt_ga σ 276 (Int32.toNatClampNeg x1)).toInt ∧ (wt_ga σ 276 (Int32.toNatClampNeg x1)).toInt ≤ 108 := wt_Ra13 r0 276 (by decide) (by decide) _
  refine wt_T_it (fun s : Int32 × Int32 × wt_St => s.2.2 = σ ∧ 0 ≤ s.2.1.toInt ∧ ∀ k : Nat, (k : Int) < s.2.1.toInt → s.1.toInt ≤ (wt_ga σ 121 (Int32.toNatClampNeg (wt_ga σ (278 + Int32.toNatClampNeg x1) k))).toInt) (fun s => ((wt_ga σ 276 (Int32.toNatClampNeg x1)).toInt - s.2.1.toInt).toNat) (fun K z hI hK => ?_) n _ ?_ ?_
  · obtain ⟨e, l1, l2⟩ := hI
    have et := wt_tnI l1
    unfold wp_md_leastOf_B6
    rw [e]
    refine wt_T_gd (wt_ix (by first | with_reducible assumption | omega) (by first | with_reducible assumption | omega)) ?_
    refine wt_T_if (fun h => ?_) (fun h => ?_)
    · have c := wt_cle h
      exact wt_T_some ⟨rfl, fun k hk => l2 k (by first | with_reducible assumption | omega)⟩
    · have c := wt_ncle h
      have gc : 0 ≤ (wt_ga σ (278 + Int32.toNatClampNeg x1) (Int32.toNatClampNeg z.2.1)).toInt ∧ (wt_ga σ (278 + Int32.toNatClampNeg x1) (Int32.toNatClampNeg z.2.1)).toInt ≤ 337 := wt_Ra14 r0 (278 + Int32.toNatClampNeg x1) (show 278 ≤ 278 + Int32.toNatClampNeg x1 by omega) (show 278 + Int32.toNatClampNeg x1 < 282 by omega) _
      have ei := wt_i1 (c := z.2.1) (by first | with_reducible assumption | omega)
      have step : ∀ v : Int32, v.toInt ≤ z.1.toInt → v.toInt ≤ (wt_ga σ 121 (Int32.toNatClampNeg (wt_ga σ (278 + Int32.toNatClampNeg x1) (Int32.toNatClampNeg z.2.1)))).toInt → wt_T (wp_md_leastOf_B50 n x1 z.2.1 K v σ) (fun q => q.2 = σ ∧ ∀ k : Nat, (k : Int) < (wt_ga σ 276 (Int32.toNatClampNeg x1)).toInt → q.1.toInt ≤ (wt_ga σ 121 (Int32.toNatClampNeg (wt_ga σ (278 + Int32.toNatClampNeg x1) k))).toInt) := by
        intro v h1 h2
        unfold wp_md_leastOf_B50
        refine hK _ ⟨rfl, (show 0 ≤ (z.2.1 + (1 : Int32)).toInt by omega), fun k hk => ?_⟩ (show ((wt_ga σ 276 (Int32.toNatClampNeg x1)).toInt - (z.2.1 + (1 : Int32)).toInt).toNat < ((wt_ga σ 276 (Int32.toNatClampNeg x1)).toInt - z.2.1.toInt).toNat by omega)
        have hk' : (k : Int) < (z.2.1 + (1 : Int32)).toInt := hk
        show v.toInt ≤ _
        by_cases hc : k = Int32.toNatClampNeg z.2.1
        · rw [hc]
          exact h2
        · have := l2 k (by first | with_reducible assumption | omega)
          omega
      refine wt_T_gd (wt_ix (by first | with_reducible assumption | omega) (by first | with_reducible assumption | omega)) ?_
      refine wt_T_gd (wt_ix (by first | with_reducible assumption | omega) (by first | with_reducible assumption | omega)) ?_
      refine wt_T_gd (wt_ix (by first | with_reducible assumption | omega) (by first | with_reducible assumption | omega)) ?_
      refine wt_T_if (fun h2 => ?_) (fun h2 => ?_)
      · have c2 := wt_cle h2
        exact step _ (Int.le_refl _) c2
      · have c2 := wt_ncle h2
        refine wt_T_gd (wt_ix (by first | with_reducible assumption | omega) (by first | with_reducible assumption | omega)) ?_
        refine wt_T_gd (wt_ix (by first | with_reducible assumption | omega) (by first | with_reducible assumption | omega)) ?_
        refine wt_T_gd (wt_ix (by first | with_reducible assumption | omega) (by first | with_reducible assumption | omega)) ?_
        exact step _ (by first | with_reducible assumption | omega) (Int.le_refl _)
  · refine ⟨rfl, (show 0 ≤ (0 : Int32).toInt by omega), fun k hk => ?_⟩
    have hk' : (k : Int) < (0 : Int32).toInt := hk
    omega
  · show ((wt_ga σ 276 (Int32.toNatClampNeg x1)).toInt - (0 : Int32).toInt).toNat < n
    omega
set_option maxRecDepth 100000 in
set_option maxHeartbeats 4000000 in
theorem wq_md_print_B39 (n : Nat) (hn : 4294967297 < n) (x1 : Int32) (x2 : Int32) (y1 : Int32) (σ : wt_St) (r0 : wt_RI σ) (p0 : y1.toInt ≠ 0 ∨ (0 ≤ x1.toInt ∧ x1.toInt ≤ 3 ∧ 1 ≤ x2.toInt ∧ x2.toInt ≤ 400)) (p1 : wt_PD σ) : wt_T (wp_md_print_B39 n x1 x2 y1 σ) (fun q => wt_fr (fun i k => (i = 108 ∧ k = 0)) (fun i => i = 121) σ q.2 ∧ wt_RI q.2) := by
  unfold wp_md_print_B39
  have k0 : (0 : Int32).toInt = 0 := by decide
  have k2 : (2 : Int32).toInt = 2 := by decide
  refine wt_T_bi (wq_md_bad n hn y1 (2 : Int32) σ r0 (by first | with_reducible assumption | omega)) (fun b hb => ?_)
  obtain ⟨fb, rb, vb⟩ := hb
  have fb' : wt_fr (fun i k => (i = 108 ∧ k = 0)) (fun i => i = 121) σ b.2 := wt_fr.tr wt_fr.rf fb (fun i k h => h) (fun i h => h.elim)
  refine wt_T_if (fun h => ?_) (fun h => wt_T_some ⟨fb', rb⟩)
  have c := wt_ceq h
  have hp : 0 ≤ x1.toInt ∧ x1.toInt ≤ 3 ∧ 1 ≤ x2.toInt ∧ x2.toInt ≤ 400 := by
    rcases p0 with p0 | p0
    · exfalso; omega
    · exact p0
  have hx := wt_tnI hp.1
  refine wt_T_bi (wq_md_leastOfP n hn x1 b.2 rb hp.1 hp.2.1) (fun m hm => ?_)
  obtain ⟨em, vm⟩ := hm
  rw [em]
  refine wt_T_if (fun h2 => ?_) (fun h2 => wt_T_some ⟨fb', rb⟩)
  have c2 := wt_cle h2
  have gm : 0 ≤ (wt_ga b.2 276 (Int32.toNatClampNeg x1)).toInt ∧ (wt_ga b.2 276 (Int32.toNatClampNeg x1)).toInt ≤ 108 := wt_Ra13 rb 276 (by decide) (by decide) _
  have gcell : ∀ k, 0 ≤ (wt_ga b.2 (278 + Int32.toNatClampNeg x1) k).toInt ∧ (wt_ga b.2 (278 + Int32.toNatClampNeg x1) k).toInt ≤ 337 := fun k => wt_Ra14 rb (278 + Int32.toNatClampNeg x1) (show 278 ≤ 278 + Int32.toNatClampNeg x1 by omega) (show 278 + Int32.toNatClampNeg x1 < 282 by omega) k
  have pd : ∀ k k' : Nat, k' < k → (k : Int) < (wt_ga b.2 276 (Int32.toNatClampNeg x1)).toInt → wt_ga b.2 (278 + Int32.toNatClampNeg x1) k' ≠ wt_ga b.2 (278 + Int32.toNatClampNeg x1) k := fun k k' h1 h2 => by
    rw [fb.2 276 (fun h => h)] at h2
    rw [fb.2 _ (fun h => h), fb.2 _ (fun h => h)]
    exact p1 (Int32.toNatClampNeg x1) (by first | with_reducible assumption | omega) k k' h1 h2
  refine wt_T_it (fun s : Int32 × Int32 × wt_St => wt_fr (fun _ _ => False) (fun i => i = 121) b.2 s.2.2 ∧ wt_RI s.2.2 ∧ 0 ≤ s.2.1.toInt ∧ ∀ k : Nat, s.2.1.toInt ≤ (k : Int) → (k : Int) < (wt_ga b.2 276 (Int32.toNatClampNeg x1)).toInt → x2.toInt ≤ (wt_ga s.2.2 121 (Int32.toNatClampNeg (wt_ga b.2 (278 + Int32.toNatClampNeg x1) k))).toInt) (fun s => ((wt_ga b.2 276 (Int32.toNatClampNeg x1)).toInt - s.2.1.toInt).toNat) (fun K y hJ hK => ?_) n _ ?_ ?_
  · obtain ⟨fy, ry, m1, m2⟩ := hJ
    have ey := wt_tnI m1
    have tc : wt_ga y.2.2 (278 + Int32.toNatClampNeg x1) (Int32.toNatClampNeg y.2.1) = wt_ga b.2 (278 + Int32.toNatClampNeg x1) (Int32.toNatClampNeg y.2.1) := fy.2 _ (by first | with_reducible assumption | omega) _
    unfold wp_md_print_B64
    rw [fy.2 276 (by decide), tc]
    refine wt_T_gd (wt_ix (by first | with_reducible assumption | omega) (by first | with_reducible assumption | omega)) ?_
    refine wt_T_if (fun h3 => wt_T_some ⟨wt_fr.tr fb' fy (fun i k (h : False) => h.elim) (fun i h => h), ry⟩) (fun h3 => ?_)
    · have c3 := wt_ncle h3
      have gc := gcell (Int32.toNatClampNeg y.2.1)
      have hge := m2 (Int32.toNatClampNeg y.2.1) (by first | with_reducible assumption | omega) (by first | with_reducible assumption | omega)
      have gl : 0 ≤ (wt_ga y.2.2 121 (Int32.toNatClampNeg (wt_ga b.2 (278 + Int32.toNatClampNeg x1) (Int32.toNatClampNeg y.2.1)))).toInt ∧ (wt_ga y.2.2 121 (Int32.toNatClampNeg (wt_ga b.2 (278 + Int32.toNatClampNeg x1) (Int32.toNatClampNeg y.2.1)))).toInt ≤ 400 := wt_Ra3 ry 121 (by decide) (by decide) _
      refine wt_T_gd (wt_ix (by first | with_reducible assumption | omega) (by first | with_reducible assumption | omega)) ?_
      refine wt_T_gd (wt_ix (by first | with_reducible assumption | omega) (by first | with_reducible assumption | omega)) ?_
      refine wt_T_gd (wt_ix (by first | with_reducible assumption | omega) (by first | with_reducible assumption | omega)) ?_
      refine wt_T_gd (wt_ix (by first | with_reducible assumption | omega) (by first | with_reducible assumption | omega)) ?_
      refine wt_T_gd (wt_ix (by first | with_reducible assumption | omega) (by first | with_reducible assumption | omega)) ?_
      refine wt_T_gd (wt_ix (by first | with_reducible assumption | omega) (by first | with_reducible assumption | omega)) ?_
      have es := wt_subE (x := wt_ga y.2.2 121 (Int32.toNatClampNeg (wt_ga b.2 (278 + Int32.toNatClampNeg x1) (Int32.toNatClampNeg y.2.1)))) (y := x2) (by first | with_reducible assumption | omega) (by first | with_reducible assumption | omega)
      obtain ⟨σ1, ε1⟩ : ∃ o : wt_St, o = wt_sa y.2.2 121 (Int32.toNatClampNeg (wt_ga b.2 (278 + Int32.toNatClampNeg x1) (Int32.toNatClampNeg y.2.1))) ((wt_ga y.2.2 121 (Int32.toNatClampNeg (wt_ga b.2 (278 + Int32.toNatClampNeg x1) (Int32.toNatClampNeg y.2.1)))) - x2) := ⟨_, rfl⟩
      rw [← ε1]
      have f1 := wt_fr_sa ε1
      have r1 := wt_Rn3 ry ε1 (by decide) (by decide) (show 0 ≤ ((wt_ga y.2.2 121 (Int32.toNatClampNeg (wt_ga b.2 (278 + Int32.toNatClampNeg x1) (Int32.toNatClampNeg y.2.1)))) - x2).toInt by omega) (show ((wt_ga y.2.2 121 (Int32.toNatClampNeg (wt_ga b.2 (278 + Int32.toNatClampNeg x1) (Int32.toNatClampNeg y.2.1)))) - x2).toInt ≤ 400 by omega)
      rw [f1.2 (278 + Int32.toNatClampNeg x1) (by first | with_reducible assumption | omega) (Int32.toNatClampNeg y.2.1), tc]
      refine wt_T_gd (wt_ix (by first | with_reducible assumption | omega) (by first | with_reducible assumption | omega)) ?_
      have ei := wt_i1 (c := y.2.1) (by first | with_reducible assumption | omega)
      have step : ∀ v : Int32, wt_T (wp_md_print_B116 n x1 x2 y.2.1 K y.1 v σ1) (fun q => wt_fr (fun i k => (i = 108 ∧ k = 0)) (fun i => i = 121) σ q.2 ∧ wt_RI q.2) := by
        intro v
        unfold wp_md_print_B116
        refine hK _ ⟨wt_fr.tr fy f1 (fun i k h => h) (fun i h => h), r1, (show 0 ≤ (y.2.1 + (1 : Int32)).toInt by omega), fun k hk hk2 => ?_⟩ (show ((wt_ga b.2 276 (Int32.toNatClampNeg x1)).toInt - (y.2.1 + (1 : Int32)).toInt).toNat < ((wt_ga b.2 276 (Int32.toNatClampNeg x1)).toInt - y.2.1.toInt).toNat by omega)
        have hk' : (y.2.1 + (1 : Int32)).toInt ≤ (k : Int) := hk
        show x2.toInt ≤ (wt_ga σ1 121 (Int32.toNatClampNeg (wt_ga b.2 (278 + Int32.toNatClampNeg x1) k))).toInt
        have gk := gcell k
        have hd := pd k (Int32.toNatClampNeg y.2.1) (by first | with_reducible assumption | omega) hk2
        rw [wt_w_sa ε1 _ (fun w => hd (wt_eqI (by have := wt_tnI gk.1; have := wt_tnI gc.1; omega)))]
        exact m2 k (by first | with_reducible assumption | omega) hk2
      exact wt_T_if (fun _ => step _) (fun _ => step _)
  · refine ⟨wt_fr.rf, rb, (show 0 ≤ (0 : Int32).toInt by omega), fun k _ hk2 => ?_⟩
    exact Int.le_trans c2 (vm k hk2)
  · show ((wt_ga b.2 276 (Int32.toNatClampNeg x1)).toInt - (0 : Int32).toInt).toNat < n
    omega

set_option maxRecDepth 100000 in
set_option maxHeartbeats 4000000 in
theorem wq_md_print (n : Nat) (hn : 4294967297 < n) (x1 : Int32) (x2 : Int32) (σ : wt_St) (r0 : wt_RI σ) (p0 : wt_PD σ) : wt_T (wp_md_print n x1 x2 σ) (fun q => wt_fr (fun i k => (i = 108 ∧ k = 0)) (fun i => i = 121) σ q.2 ∧ wt_RI q.2) := by
  have bb1 := wt_bd x1
  have bb2 := wt_bd x2
  unfold wp_md_print
  obtain ⟨σ3, eσ3⟩ : ∃ z : wt_St, z = wt_sf σ 108 0 (0 : Int32) := ⟨_, rfl⟩
  rw [← eσ3]
  have fσ3 := wt_fr_sf eσ3
  have vσ3 := wt_ceq (wt_v_sf eσ3)
  have k4 : (0 : Int32).toInt = 0 := by decide
  have rσ3 := wt_RI_fno r0 eσ3 (Or.inr (by decide +kernel))
  refine wt_T_bi (wq_md_isPage n hn x1 σ3 rσ3) (fun r5 h6 => ?_)
  obtain ⟨e7, pp8⟩ := h6
  have bb9 := wt_bd r5.1
  rw [e7]
  have bb10 := wt_tn x1
  have g12 : -1 ≤ (wt_ga σ3 275 (Int32.toNatClampNeg x1)).toInt ∧ (wt_ga σ3 275 (Int32.toNatClampNeg x1)).toInt ≤ 7 := wt_Ra12 rσ3 275 (by decide) (by decide) (Int32.toNatClampNeg x1)
  have tt13 : (wt_ga σ3 275 (Int32.toNatClampNeg x1)).toInt = (wt_ga σ 275 (Int32.toNatClampNeg x1)).toInt := congrArg Int32.toInt (fσ3.2 275 (fun z => z) (Int32.toNatClampNeg x1))
  refine wt_T_if (fun h16 => ?_) (fun h16 => ?_)
  · skip
    have c17 := wt_ceq h16
    unfold wp_md_print_B19
    have k18 : (1 : Int32).toInt = 1 := by decide
    refine wt_T_bi (wq_md_bad n hn (1 : Int32) (1 : Int32) σ3 rσ3 (by first | with_reducible assumption | omega)) (fun r19 h20 => ?_)
    obtain ⟨f21, ri22, pp23⟩ := h20
    have bb24 := wt_bd r19.1
    have bb25 := wt_bd (wt_gf r19.2 108 0)
    have bb26 := wt_bd (wt_gf σ3 108 0)
    refine wt_T_if (fun h27 => ?_) (fun h27 => ?_)
    · skip
      have c28 := wt_ceq h27
      refine wt_T_bi (wq_md_isCopies n hn x2 r19.2 ri22) (fun r29 h30 => ?_)
      obtain ⟨e31, pp32⟩ := h30
      have bb33 := wt_bd r29.1
      rw [e31]
      refine wt_T_if (fun h34 => ?_) (fun h34 => ?_)
      · skip
        have c35 := wt_ceq h34
        refine wt_T.imp (wq_md_print_B39 n hn x1 x2 (1 : Int32) r19.2 ri22 (by first | with_reducible assumption | omega) (wt_PD_fr (F := fun i k => (i = 108 ∧ k = 0)) (A := fun i => i = 121) p0 (wt_fr.tr (wt_fr.tr wt_fr.rf fσ3 (fun i k h => by (try dsimp only at h); exact (by first | exact h | omega)) (fun i h => h.elim)) f21 (fun i k h => by (try dsimp only at h); exact (by first | exact h | omega)) (fun i h => h.elim)) (fun i hi => by (try dsimp only); omega))) (fun r36 h37 => ?_)
        have bb38 := wt_bd r36.1
        obtain ⟨f39, ri40⟩ := h37
        exact ⟨(wt_fr.tr (wt_fr.tr (wt_fr.tr wt_fr.rf fσ3 (fun i k h => by (try dsimp only at h); exact (by first | exact h | omega)) (fun i h => h.elim)) f21 (fun i k h => by (try dsimp only at h); exact (by first | exact h | omega)) (fun i h => h.elim)) f39 (fun i k h => by (try dsimp only at h); exact (by first | exact h | omega)) (fun i h => by (try dsimp only at h); exact (by first | exact h | omega))), ri40⟩
      · skip
        have c41 := wt_nceq h34
        refine wt_T.imp (wq_md_print_B39 n hn x1 x2 (0 : Int32) r19.2 ri22 (by first | with_reducible assumption | omega) (wt_PD_fr (F := fun i k => (i = 108 ∧ k = 0)) (A := fun i => i = 121) p0 (wt_fr.tr (wt_fr.tr wt_fr.rf fσ3 (fun i k h => by (try dsimp only at h); exact (by first | exact h | omega)) (fun i h => h.elim)) f21 (fun i k h => by (try dsimp only at h); exact (by first | exact h | omega)) (fun i h => h.elim)) (fun i hi => by (try dsimp only); omega))) (fun r42 h43 => ?_)
        have bb44 := wt_bd r42.1
        obtain ⟨f45, ri46⟩ := h43
        exact ⟨(wt_fr.tr (wt_fr.tr (wt_fr.tr wt_fr.rf fσ3 (fun i k h => by (try dsimp only at h); exact (by first | exact h | omega)) (fun i h => h.elim)) f21 (fun i k h => by (try dsimp only at h); exact (by first | exact h | omega)) (fun i h => h.elim)) f45 (fun i k h => by (try dsimp only at h); exact (by first | exact h | omega)) (fun i h => by (try dsimp only at h); exact (by first | exact h | omega))), ri46⟩
    · skip
      have c47 := wt_nceq h27
      refine wt_T_some ?_
      exact ⟨(wt_fr.tr (wt_fr.tr wt_fr.rf fσ3 (fun i k h => by (try dsimp only at h); exact (by first | exact h | omega)) (fun i h => h.elim)) f21 (fun i k h => by (try dsimp only at h); exact (by first | exact h | omega)) (fun i h => h.elim)), ri22⟩
  · skip
    have c48 := wt_nceq h16
    unfold wp_md_print_B19
    have k49 : (1 : Int32).toInt = 1 := by decide
    refine wt_T_bi (wq_md_bad n hn (0 : Int32) (1 : Int32) σ3 rσ3 (by first | with_reducible assumption | omega)) (fun r50 h51 => ?_)
    obtain ⟨f52, ri53, pp54⟩ := h51
    have bb55 := wt_bd r50.1
    have bb56 := wt_bd (wt_gf r50.2 108 0)
    have bb57 := wt_bd (wt_gf σ3 108 0)
    refine wt_T_if (fun h58 => ?_) (fun h58 => ?_)
    · skip
      have c59 := wt_ceq h58
      refine wt_T_bi (wq_md_isCopies n hn x2 r50.2 ri53) (fun r60 h61 => ?_)
      obtain ⟨e62, pp63⟩ := h61
      have bb64 := wt_bd r60.1
      rw [e62]
      refine wt_T_if (fun h65 => ?_) (fun h65 => ?_)
      · skip
        have c66 := wt_ceq h65
        refine wt_T.imp (wq_md_print_B39 n hn x1 x2 (1 : Int32) r50.2 ri53 (by first | with_reducible assumption | omega) (wt_PD_fr (F := fun i k => (i = 108 ∧ k = 0)) (A := fun i => i = 121) p0 (wt_fr.tr (wt_fr.tr wt_fr.rf fσ3 (fun i k h => by (try dsimp only at h); exact (by first | exact h | omega)) (fun i h => h.elim)) f52 (fun i k h => by (try dsimp only at h); exact (by first | exact h | omega)) (fun i h => h.elim)) (fun i hi => by (try dsimp only); omega))) (fun r67 h68 => ?_)
        have bb69 := wt_bd r67.1
        obtain ⟨f70, ri71⟩ := h68
        exact ⟨(wt_fr.tr (wt_fr.tr (wt_fr.tr wt_fr.rf fσ3 (fun i k h => by (try dsimp only at h); exact (by first | exact h | omega)) (fun i h => h.elim)) f52 (fun i k h => by (try dsimp only at h); exact (by first | exact h | omega)) (fun i h => h.elim)) f70 (fun i k h => by (try dsimp only at h); exact (by first | exact h | omega)) (fun i h => by (try dsimp only at h); exact (by first | exact h | omega))), ri71⟩
      · skip
        have c72 := wt_nceq h65
        refine wt_T.imp (wq_md_print_B39 n hn x1 x2 (0 : Int32) r50.2 ri53 (by first | with_reducible assumption | omega) (wt_PD_fr (F := fun i k => (i = 108 ∧ k = 0)) (A := fun i => i = 121) p0 (wt_fr.tr (wt_fr.tr wt_fr.rf fσ3 (fun i k h => by (try dsimp only at h); exact (by first | exact h | omega)) (fun i h => h.elim)) f52 (fun i k h => by (try dsimp only at h); exact (by first | exact h | omega)) (fun i h => h.elim)) (fun i hi => by (try dsimp only); omega))) (fun r73 h74 => ?_)
        have bb75 := wt_bd r73.1
        obtain ⟨f76, ri77⟩ := h74
        exact ⟨(wt_fr.tr (wt_fr.tr (wt_fr.tr wt_fr.rf fσ3 (fun i k h => by (try dsimp only at h); exact (by first | exact h | omega)) (fun i h => h.elim)) f52 (fun i k h => by (try dsimp only at h); exact (by first | exact h | omega)) (fun i h => h.elim)) f76 (fun i k h => by (try dsimp only at h); exact (by first | exact h | omega)) (fun i h => by (try dsimp only at h); exact (by first | exact h | omega))), ri77⟩
    · skip
      have c78 := wt_nceq h58
      refine wt_T_some ?_
      exact ⟨(wt_fr.tr (wt_fr.tr wt_fr.rf fσ3 (fun i k h => by (try dsimp only at h); exact (by first | exact h | omega)) (fun i h => h.elim)) f52 (fun i k h => by (try dsimp only at h); exact (by first | exact h | omega)) (fun i h => h.elim)), ri53⟩
set_option maxRecDepth 100000 in
set_option maxHeartbeats 4000000 in
theorem wq_md_read (n : Nat) (hn : 4294967297 < n) (x1 : Int32) (x2 : Int32) (σ : wt_St) (r0 : wt_RI σ) (p0 : wt_PG σ) : wt_T (wp_md_read n x1 x2 σ) (fun q => wt_fr (fun i k => (i = 108 ∧ k = 0)) (fun i => i = 290 ∨ i = 289) σ q.2 ∧ wt_RI q.2) := by
  have bb1 := wt_bd x1
  have bb2 := wt_bd x2
  unfold wp_md_read
  obtain ⟨σ3, eσ3⟩ : ∃ z : wt_St, z = wt_sf σ 108 0 (0 : Int32) := ⟨_, rfl⟩
  rw [← eσ3]
  have fσ3 := wt_fr_sf eσ3
  have vσ3 := wt_ceq (wt_v_sf eσ3)
  have k4 : (0 : Int32).toInt = 0 := by decide
  have rσ3 := wt_RI_fno r0 eσ3 (Or.inr (by decide +kernel))
  refine wt_T_bi (wq_md_isPage n hn x1 σ3 rσ3) (fun r5 h6 => ?_)
  obtain ⟨e7, pp8⟩ := h6
  have bb9 := wt_bd r5.1
  rw [e7]
  have bb10 := wt_tn x1
  have g12 : -1 ≤ (wt_ga σ3 275 (Int32.toNatClampNeg x1)).toInt ∧ (wt_ga σ3 275 (Int32.toNatClampNeg x1)).toInt ≤ 7 := wt_Ra12 rσ3 275 (by decide) (by decide) (Int32.toNatClampNeg x1)
  have tt13 : (wt_ga σ3 275 (Int32.toNatClampNeg x1)).toInt = (wt_ga σ 275 (Int32.toNatClampNeg x1)).toInt := congrArg Int32.toInt (fσ3.2 275 (fun z => z) (Int32.toNatClampNeg x1))
  refine wt_T_if (fun h16 => ?_) (fun h16 => ?_)
  · skip
    have c17 := wt_ceq h16
    unfold wp_md_read_B19
    have k18 : (1 : Int32).toInt = 1 := by decide
    refine wt_T_bi (wq_md_bad n hn (1 : Int32) (1 : Int32) σ3 rσ3 (by first | with_reducible assumption | omega)) (fun r19 h20 => ?_)
    obtain ⟨f21, ri22, pp23⟩ := h20
    have bb24 := wt_bd r19.1
    have bb25 := wt_bd (wt_gf r19.2 108 0)
    have bb26 := wt_bd (wt_gf σ3 108 0)
    refine wt_T_if (fun h27 => ?_) (fun h27 => ?_)
    · skip
      have c28 := wt_ceq h27
      refine wt_T_gd (wt_ix (by first | with_reducible assumption | omega) (by first | with_reducible assumption | omega)) ?_
      have g30 : -1 ≤ (wt_ga r19.2 275 (Int32.toNatClampNeg x1)).toInt ∧ (wt_ga r19.2 275 (Int32.toNatClampNeg x1)).toInt ≤ 7 := wt_Ra12 ri22 275 (by decide) (by decide) (Int32.toNatClampNeg x1)
      have tt31 : (wt_ga r19.2 275 (Int32.toNatClampNeg x1)).toInt = (wt_ga σ3 275 (Int32.toNatClampNeg x1)).toInt := congrArg Int32.toInt (f21.2 275 (fun z => z) (Int32.toNatClampNeg x1))
      refine wt_T_gd (wt_ix (by first | with_reducible assumption | omega) (by first | with_reducible assumption | omega)) ?_
      have bb32 := wt_tn (wt_ga r19.2 275 (Int32.toNatClampNeg x1))
      have g34 : 0 ≤ (wt_ga r19.2 253 (Int32.toNatClampNeg (wt_ga r19.2 275 (Int32.toNatClampNeg x1)))).toInt ∧ (wt_ga r19.2 253 (Int32.toNatClampNeg (wt_ga r19.2 275 (Int32.toNatClampNeg x1)))).toInt ≤ 12 := wt_Ra9 ri22 253 (by decide) (by decide) (Int32.toNatClampNeg (wt_ga r19.2 275 (Int32.toNatClampNeg x1)))
      have tt35 : (wt_ga r19.2 253 (Int32.toNatClampNeg (wt_ga r19.2 275 (Int32.toNatClampNeg x1)))).toInt = (wt_ga σ3 253 (Int32.toNatClampNeg (wt_ga r19.2 275 (Int32.toNatClampNeg x1)))).toInt := congrArg Int32.toInt (f21.2 253 (fun z => z) (Int32.toNatClampNeg (wt_ga r19.2 275 (Int32.toNatClampNeg x1))))
      have tt38 : (wt_ga σ3 253 (Int32.toNatClampNeg (wt_ga r19.2 275 (Int32.toNatClampNeg x1)))).toInt = (wt_ga σ 253 (Int32.toNatClampNeg (wt_ga r19.2 275 (Int32.toNatClampNeg x1)))).toInt := congrArg Int32.toInt (fσ3.2 253 (fun z => z) (Int32.toNatClampNeg (wt_ga r19.2 275 (Int32.toNatClampNeg x1))))
      obtain ⟨j41, j41a, j41b⟩ := wt_subI (wt_ga r19.2 253 (Int32.toNatClampNeg (wt_ga r19.2 275 (Int32.toNatClampNeg x1)))) (1 : Int32)
      refine wt_T_bi (wq_md_in n hn x2 (0 : Int32) ((wt_ga r19.2 253 (Int32.toNatClampNeg (wt_ga r19.2 275 (Int32.toNatClampNeg x1)))) - (1 : Int32)) r19.2 ri22) (fun r42 h43 => ?_)
      obtain ⟨e44, pp45⟩ := h43
      have bb46 := wt_bd r42.1
      rw [e44]
      refine wt_T_if (fun h47 => ?_) (fun h47 => ?_)
      · skip
        have c48 := wt_ceq h47
        refine wt_T_some ?_
        exact ⟨(wt_fr.tr (wt_fr.tr wt_fr.rf fσ3 (fun i k h => by (try dsimp only at h); exact (by first | exact h | omega)) (fun i h => h.elim)) f21 (fun i k h => by (try dsimp only at h); exact (by first | exact h | omega)) (fun i h => h.elim)), ri22⟩
      · skip
        have c49 := wt_nceq h47
        refine wt_T_bi (wq_md_readOf n hn x1 x2 r19.2 ri22 (by first | with_reducible assumption | omega) (by first | with_reducible assumption | omega) (by first | with_reducible assumption | omega) (by first | with_reducible assumption | omega) (by first | with_reducible assumption | omega) (wt_PG_fr (F := fun i k => (i = 108 ∧ k = 0)) (A := fun i => i = 290 ∨ i = 289) r0 p0 (wt_fr.tr (wt_fr.tr wt_fr.rf fσ3 (fun i k h => by (try dsimp only at h); exact (by first | exact h | omega)) (fun i h => h.elim)) f21 (fun i k h => by (try dsimp only at h); exact (by first | exact h | omega)) (fun i h => h.elim)) (by (try dsimp only); first | omega | exact fun h => h) (fun i hi => by (try dsimp only); unfold wt_PA at hi; omega))) (fun r50 h51 => ?_)
        obtain ⟨f52, ri53⟩ := h51
        have bb54 := wt_bd r50.1
        refine wt_T_some ?_
        exact ⟨(wt_fr.tr (wt_fr.tr (wt_fr.tr wt_fr.rf fσ3 (fun i k h => by (try dsimp only at h); exact (by first | exact h | omega)) (fun i h => h.elim)) f21 (fun i k h => by (try dsimp only at h); exact (by first | exact h | omega)) (fun i h => h.elim)) f52 (fun i k h => h.elim) (fun i h => by (try dsimp only at h); rcases h with h | h; exact Or.inl (by first | exact h | omega); exact Or.inr (by first | exact h | omega))), ri53⟩
    · skip
      have c55 := wt_nceq h27
      refine wt_T_some ?_
      exact ⟨(wt_fr.tr (wt_fr.tr wt_fr.rf fσ3 (fun i k h => by (try dsimp only at h); exact (by first | exact h | omega)) (fun i h => h.elim)) f21 (fun i k h => by (try dsimp only at h); exact (by first | exact h | omega)) (fun i h => h.elim)), ri22⟩
  · skip
    have c56 := wt_nceq h16
    unfold wp_md_read_B19
    have k57 : (1 : Int32).toInt = 1 := by decide
    refine wt_T_bi (wq_md_bad n hn (0 : Int32) (1 : Int32) σ3 rσ3 (by first | with_reducible assumption | omega)) (fun r58 h59 => ?_)
    obtain ⟨f60, ri61, pp62⟩ := h59
    have bb63 := wt_bd r58.1
    have bb64 := wt_bd (wt_gf r58.2 108 0)
    have bb65 := wt_bd (wt_gf σ3 108 0)
    refine wt_T_if (fun h66 => ?_) (fun h66 => ?_)
    · skip
      have c67 := wt_ceq h66
      refine wt_T_gd (wt_ix (by first | with_reducible assumption | omega) (by first | with_reducible assumption | omega)) ?_
      have g69 : -1 ≤ (wt_ga r58.2 275 (Int32.toNatClampNeg x1)).toInt ∧ (wt_ga r58.2 275 (Int32.toNatClampNeg x1)).toInt ≤ 7 := wt_Ra12 ri61 275 (by decide) (by decide) (Int32.toNatClampNeg x1)
      have tt70 : (wt_ga r58.2 275 (Int32.toNatClampNeg x1)).toInt = (wt_ga σ3 275 (Int32.toNatClampNeg x1)).toInt := congrArg Int32.toInt (f60.2 275 (fun z => z) (Int32.toNatClampNeg x1))
      refine wt_T_gd (wt_ix (by first | with_reducible assumption | omega) (by first | with_reducible assumption | omega)) ?_
      have bb71 := wt_tn (wt_ga r58.2 275 (Int32.toNatClampNeg x1))
      have g73 : 0 ≤ (wt_ga r58.2 253 (Int32.toNatClampNeg (wt_ga r58.2 275 (Int32.toNatClampNeg x1)))).toInt ∧ (wt_ga r58.2 253 (Int32.toNatClampNeg (wt_ga r58.2 275 (Int32.toNatClampNeg x1)))).toInt ≤ 12 := wt_Ra9 ri61 253 (by decide) (by decide) (Int32.toNatClampNeg (wt_ga r58.2 275 (Int32.toNatClampNeg x1)))
      have tt74 : (wt_ga r58.2 253 (Int32.toNatClampNeg (wt_ga r58.2 275 (Int32.toNatClampNeg x1)))).toInt = (wt_ga σ3 253 (Int32.toNatClampNeg (wt_ga r58.2 275 (Int32.toNatClampNeg x1)))).toInt := congrArg Int32.toInt (f60.2 253 (fun z => z) (Int32.toNatClampNeg (wt_ga r58.2 275 (Int32.toNatClampNeg x1))))
      have tt77 : (wt_ga σ3 253 (Int32.toNatClampNeg (wt_ga r58.2 275 (Int32.toNatClampNeg x1)))).toInt = (wt_ga σ 253 (Int32.toNatClampNeg (wt_ga r58.2 275 (Int32.toNatClampNeg x1)))).toInt := congrArg Int32.toInt (fσ3.2 253 (fun z => z) (Int32.toNatClampNeg (wt_ga r58.2 275 (Int32.toNatClampNeg x1))))
      obtain ⟨j80, j80a, j80b⟩ := wt_subI (wt_ga r58.2 253 (Int32.toNatClampNeg (wt_ga r58.2 275 (Int32.toNatClampNeg x1)))) (1 : Int32)
      refine wt_T_bi (wq_md_in n hn x2 (0 : Int32) ((wt_ga r58.2 253 (Int32.toNatClampNeg (wt_ga r58.2 275 (Int32.toNatClampNeg x1)))) - (1 : Int32)) r58.2 ri61) (fun r81 h82 => ?_)
      obtain ⟨e83, pp84⟩ := h82
      have bb85 := wt_bd r81.1
      rw [e83]
      refine wt_T_if (fun h86 => ?_) (fun h86 => ?_)
      · skip
        have c87 := wt_ceq h86
        refine wt_T_some ?_
        exact ⟨(wt_fr.tr (wt_fr.tr wt_fr.rf fσ3 (fun i k h => by (try dsimp only at h); exact (by first | exact h | omega)) (fun i h => h.elim)) f60 (fun i k h => by (try dsimp only at h); exact (by first | exact h | omega)) (fun i h => h.elim)), ri61⟩
      · skip
        have c88 := wt_nceq h86
        refine wt_T_bi (wq_md_readOf n hn x1 x2 r58.2 ri61 (by first | with_reducible assumption | omega) (by first | with_reducible assumption | omega) (by first | with_reducible assumption | omega) (by first | with_reducible assumption | omega) (by first | with_reducible assumption | omega) (wt_PG_fr (F := fun i k => (i = 108 ∧ k = 0)) (A := fun i => i = 290 ∨ i = 289) r0 p0 (wt_fr.tr (wt_fr.tr wt_fr.rf fσ3 (fun i k h => by (try dsimp only at h); exact (by first | exact h | omega)) (fun i h => h.elim)) f60 (fun i k h => by (try dsimp only at h); exact (by first | exact h | omega)) (fun i h => h.elim)) (by (try dsimp only); first | omega | exact fun h => h) (fun i hi => by (try dsimp only); unfold wt_PA at hi; omega))) (fun r89 h90 => ?_)
        obtain ⟨f91, ri92⟩ := h90
        have bb93 := wt_bd r89.1
        refine wt_T_some ?_
        exact ⟨(wt_fr.tr (wt_fr.tr (wt_fr.tr wt_fr.rf fσ3 (fun i k h => by (try dsimp only at h); exact (by first | exact h | omega)) (fun i h => h.elim)) f60 (fun i k h => by (try dsimp only at h); exact (by first | exact h | omega)) (fun i h => h.elim)) f91 (fun i k h => h.elim) (fun i h => by (try dsimp only at h); rcases h with h | h; exact Or.inl (by first | exact h | omega); exact Or.inr (by first | exact h | omega))), ri92⟩
    · skip
      have c94 := wt_nceq h66
      refine wt_T_some ?_
      exact ⟨(wt_fr.tr (wt_fr.tr wt_fr.rf fσ3 (fun i k h => by (try dsimp only at h); exact (by first | exact h | omega)) (fun i h => h.elim)) f60 (fun i k h => by (try dsimp only at h); exact (by first | exact h | omega)) (fun i h => h.elim)), ri61⟩
set_option maxRecDepth 100000 in
set_option maxHeartbeats 4000000 in
theorem wq_md_wordOf_131_125 (n : Nat) (hn : 4294967297 < n) (x1 : Int32) (x4 : Int32) (σ : wt_St) (r0 : wt_RI σ) (p0 : x4.toInt ≤ 60) : wt_T (wp_md_wordOf_131 n 125 x1 x4 σ) (fun q => q.2 = σ ∧ (q.1.toInt = -1 ∨ (0 ≤ q.1.toInt ∧ q.1.toInt < x4.toInt))) := by
  have hl125 : wt_ln 125 = 60 := by decide
  have hl126 : wt_ln 126 = 60 := by decide
  have bb1 := wt_bd x1
  have bb2 := wt_bd x4
  unfold wp_md_wordOf_131
  have k8 : (0 : Int32).toInt = 0 := by decide
  refine wt_T_it (fun s : Int32 × wt_St => s.2 = σ ∧ 0 ≤ (s.1).toInt) (fun s : Int32 × wt_St => (x4.toInt - s.1.toInt + 0).toNat) (fun KK3 z4 I5 hKK3 => ?_) _ _ ?_ ?_
  · skip
    obtain ⟨l6, l7⟩ := I5
    unfold wp_md_wordOf_131_B3
    rw [l6]
    have bb9 := wt_bd z4.1
    refine wt_T_if (fun h10 => ?_) (fun h10 => ?_)
    · skip
      have c11 := wt_cle h10
      refine wt_T_some ?_
      have k12 := wt_lm1
      exact ⟨rfl, (show ((-1 : Int32).toInt = -1 ∨ (0 ≤ (-1 : Int32).toInt ∧ (-1 : Int32).toInt < x4.toInt)) from by omega)⟩
    · skip
      have c13 := wt_ncle h10
      have bb14 := wt_ln_bd 125
      refine wt_T_gd (wt_ix (by first | with_reducible assumption | omega) (by first | with_reducible assumption | omega)) ?_
      have bb15 := wt_tn z4.1
      have g17 : 0 ≤ (wt_ga σ 125 (Int32.toNatClampNeg z4.1)).toInt ∧ (wt_ga σ 125 (Int32.toNatClampNeg z4.1)).toInt ≤ 9 := wt_Ra5 r0 125 (by decide) (by decide) (Int32.toNatClampNeg z4.1)
      refine wt_T_if (fun h18 => ?_) (fun h18 => ?_)
      · skip
        have c19 := wt_ceq h18
        unfold wp_md_wordOf_131_B23
        have k26 : (1 : Int32).toInt = 1 := by decide
        refine wt_T_it (fun s : Int32 × Int32 × wt_St => s.2.2 = σ ∧ 0 ≤ (s.2.1).toInt ∧ (s.1.toInt = 0 ∨ x1.toInt ≤ 9)) (fun s : Int32 × Int32 × wt_St => (x1.toInt - s.2.1.toInt + 0).toNat) (fun KK20 z21 I22 hKK20 => ?_) _ _ ?_ ?_
        · skip
          obtain ⟨l23, l24, l25⟩ := I22
          unfold wp_md_wordOf_131_B28
          rw [l23]
          have bb27 := wt_bd z21.2.1
          refine wt_T_if (fun h28 => ?_) (fun h28 => ?_)
          · skip
            have c29 := wt_cle h28
            unfold wp_md_wordOf_131_B76
            have bb30 := wt_bd z21.1
            refine wt_T_if (fun h31 => ?_) (fun h31 => ?_)
            · skip
              have c32 := wt_ceq h31
              refine hKK3 _ ⟨rfl, (wt_nn (B := x4) (by first | with_reducible assumption | omega) (by first | (rw [l6]; omega) | (rw [l6]; done) | omega))⟩ ?_
              show (x4.toInt - (z4.1 + (1 : Int32)).toInt + 0).toNat < (x4.toInt - z4.1.toInt + 0).toNat
              exact wt_mu (by first | (rw [l6]; omega) | (rw [l6]; done) | omega) (by first | (rw [l6]; omega) | (rw [l6]; done) | omega)
            · skip
              have c33 := wt_nceq h31
              refine wt_T_some ?_
              exact ⟨rfl, (show (z4.1.toInt = -1 ∨ (0 ≤ z4.1.toInt ∧ z4.1.toInt < x4.toInt)) from by omega)⟩
          · skip
            have c34 := wt_ncle h28
            have bb35 := wt_bd z21.1
            refine wt_T_if (fun h36 => ?_) (fun h36 => ?_)
            · skip
              have c37 := wt_ceq h36
              unfold wp_md_wordOf_131_B76
              refine wt_T_if (fun h38 => ?_) (fun h38 => ?_)
              · skip
                have c39 := wt_ceq h38
                refine hKK3 _ ⟨rfl, (wt_nn (B := x4) (by first | with_reducible assumption | omega) (by first | (rw [l6]; omega) | (rw [l6]; done) | omega))⟩ ?_
                show (x4.toInt - (z4.1 + (1 : Int32)).toInt + 0).toNat < (x4.toInt - z4.1.toInt + 0).toNat
                exact wt_mu (by first | (rw [l6]; omega) | (rw [l6]; done) | omega) (by first | (rw [l6]; omega) | (rw [l6]; done) | omega)
              · skip
                have c40 := wt_nceq h38
                refine wt_T_some ?_
                exact ⟨rfl, (show (z4.1.toInt = -1 ∨ (0 ≤ z4.1.toInt ∧ z4.1.toInt < x4.toInt)) from by omega)⟩
            · skip
              have c41 := wt_nceq h36
              refine wt_T_gd (wt_ix (by first | with_reducible assumption | omega) (by first | with_reducible assumption | omega)) ?_
              refine wt_T_gd (wt_ix (by first | with_reducible assumption | omega) (by first | with_reducible assumption | omega)) ?_
              have g43 : 0 ≤ (wt_gf σ 108 4).toInt ∧ (wt_gf σ 108 4).toInt ≤ 500 := wt_Rf2 r0
              obtain ⟨j44, j44a, j44b⟩ := wt_addI (wt_gf σ 108 4) z21.2.1
              refine wt_T_bi (wq_md_byteAt n hn ((wt_gf σ 108 4) + z21.2.1) σ r0 (by first | with_reducible assumption | omega)) (fun r45 h46 => ?_)
              obtain ⟨e47, pp48⟩ := h46
              have bb49 := wt_bd r45.1
              rw [e47]
              have g51 : 0 ≤ (wt_gf σ 108 2).toInt ∧ (wt_gf σ 108 2).toInt ≤ 500 := wt_Rf1 r0
              have bb52 := wt_tn ((wt_gf σ 108 4) + z21.2.1)
              have bb53 := wt_bd (wt_ga σ 109 (Int32.toNatClampNeg ((wt_gf σ 108 4) + z21.2.1)))
              have bb54 := wt_tn z21.2.1
              have g56 : 0 ≤ (wt_ga σ (132 + (Int32.toNatClampNeg z4.1)) (Int32.toNatClampNeg z21.2.1)).toInt ∧ (wt_ga σ (132 + (Int32.toNatClampNeg z4.1)) (Int32.toNatClampNeg z21.2.1)).toInt ≤ 25 := wt_Ra7 r0 (132 + (Int32.toNatClampNeg z4.1)) (show 132 ≤ 132 + (Int32.toNatClampNeg z4.1) by omega) (show 132 + (Int32.toNatClampNeg z4.1) < 192 by omega) (Int32.toNatClampNeg z21.2.1)
              have k57 : (97 : Int32).toInt = 97 := by decide
              obtain ⟨j58, j58a, j58b⟩ := wt_subI r45.1 (97 : Int32)
              refine wt_T_if (fun h59 => ?_) (fun h59 => ?_)
              · skip
                have c60 := wt_ceq h59
                unfold wp_md_wordOf_131_B68
                obtain ⟨j61, j61a, j61b⟩ := wt_addI z21.2.1 (1 : Int32)
                refine hKK20 _ ⟨rfl, (wt_nn (B := x1) (by first | with_reducible assumption | omega) (by first | (rw [l23]; omega) | (rw [l23]; done) | omega)), (show ((1 : Int32).toInt = 0 ∨ x1.toInt ≤ 9) by omega)⟩ ?_
                show (x1.toInt - (z21.2.1 + (1 : Int32)).toInt + 0).toNat < (x1.toInt - z21.2.1.toInt + 0).toNat
                exact wt_mu (by first | (rw [l23]; omega) | (rw [l23]; done) | omega) (by first | (rw [l23]; omega) | (rw [l23]; done) | omega)
              · skip
                have c62 := wt_nceq h59
                unfold wp_md_wordOf_131_B68
                obtain ⟨j63, j63a, j63b⟩ := wt_addI z21.2.1 (1 : Int32)
                refine hKK20 _ ⟨rfl, (wt_nn (B := x1) (by first | with_reducible assumption | omega) (by first | (rw [l23]; omega) | (rw [l23]; done) | omega)), (show ((0 : Int32).toInt = 0 ∨ x1.toInt ≤ 9) by omega)⟩ ?_
                show (x1.toInt - (z21.2.1 + (1 : Int32)).toInt + 0).toNat < (x1.toInt - z21.2.1.toInt + 0).toNat
                exact wt_mu (by first | (rw [l23]; omega) | (rw [l23]; done) | omega) (by first | (rw [l23]; omega) | (rw [l23]; done) | omega)
        · skip
          exact ⟨rfl, (show 0 ≤ ((0 : Int32)).toInt by omega), (show ((1 : Int32).toInt = 0 ∨ x1.toInt ≤ 9) by omega)⟩
        · skip
          show (x1.toInt - (0 : Int32).toInt + 0).toNat < n
          omega
      · skip
        have c64 := wt_nceq h18
        unfold wp_md_wordOf_131_B23
        refine wt_T_it (fun s : Int32 × Int32 × wt_St => s.2.2 = σ ∧ 0 ≤ (s.2.1).toInt ∧ (s.1.toInt = 0 ∨ x1.toInt ≤ 9)) (fun s : Int32 × Int32 × wt_St => (x1.toInt - s.2.1.toInt + 0).toNat) (fun KK65 z66 I67 hKK65 => ?_) _ _ ?_ ?_
        · skip
          obtain ⟨l68, l69, l70⟩ := I67
          unfold wp_md_wordOf_131_B28
          rw [l68]
          have bb71 := wt_bd z66.2.1
          refine wt_T_if (fun h72 => ?_) (fun h72 => ?_)
          · skip
            have c73 := wt_cle h72
            unfold wp_md_wordOf_131_B76
            have bb74 := wt_bd z66.1
            refine wt_T_if (fun h75 => ?_) (fun h75 => ?_)
            · skip
              have c76 := wt_ceq h75
              refine hKK3 _ ⟨rfl, (wt_nn (B := x4) (by first | with_reducible assumption | omega) (by first | (rw [l6]; omega) | (rw [l6]; done) | omega))⟩ ?_
              show (x4.toInt - (z4.1 + (1 : Int32)).toInt + 0).toNat < (x4.toInt - z4.1.toInt + 0).toNat
              exact wt_mu (by first | (rw [l6]; omega) | (rw [l6]; done) | omega) (by first | (rw [l6]; omega) | (rw [l6]; done) | omega)
            · skip
              have c77 := wt_nceq h75
              refine wt_T_some ?_
              exact ⟨rfl, (show (z4.1.toInt = -1 ∨ (0 ≤ z4.1.toInt ∧ z4.1.toInt < x4.toInt)) from by omega)⟩
          · skip
            have c78 := wt_ncle h72
            have bb79 := wt_bd z66.1
            refine wt_T_if (fun h80 => ?_) (fun h80 => ?_)
            · skip
              have c81 := wt_ceq h80
              unfold wp_md_wordOf_131_B76
              refine wt_T_if (fun h82 => ?_) (fun h82 => ?_)
              · skip
                have c83 := wt_ceq h82
                refine hKK3 _ ⟨rfl, (wt_nn (B := x4) (by first | with_reducible assumption | omega) (by first | (rw [l6]; omega) | (rw [l6]; done) | omega))⟩ ?_
                show (x4.toInt - (z4.1 + (1 : Int32)).toInt + 0).toNat < (x4.toInt - z4.1.toInt + 0).toNat
                exact wt_mu (by first | (rw [l6]; omega) | (rw [l6]; done) | omega) (by first | (rw [l6]; omega) | (rw [l6]; done) | omega)
              · skip
                have c84 := wt_nceq h82
                refine wt_T_some ?_
                exact ⟨rfl, (show (z4.1.toInt = -1 ∨ (0 ≤ z4.1.toInt ∧ z4.1.toInt < x4.toInt)) from by omega)⟩
            · skip
              have c85 := wt_nceq h80
              refine wt_T_gd (wt_ix (by first | with_reducible assumption | omega) (by first | with_reducible assumption | omega)) ?_
              refine wt_T_gd (wt_ix (by first | with_reducible assumption | omega) (by first | with_reducible assumption | omega)) ?_
              have g87 : 0 ≤ (wt_gf σ 108 4).toInt ∧ (wt_gf σ 108 4).toInt ≤ 500 := wt_Rf2 r0
              obtain ⟨j88, j88a, j88b⟩ := wt_addI (wt_gf σ 108 4) z66.2.1
              refine wt_T_bi (wq_md_byteAt n hn ((wt_gf σ 108 4) + z66.2.1) σ r0 (by first | with_reducible assumption | omega)) (fun r89 h90 => ?_)
              obtain ⟨e91, pp92⟩ := h90
              have bb93 := wt_bd r89.1
              rw [e91]
              have g95 : 0 ≤ (wt_gf σ 108 2).toInt ∧ (wt_gf σ 108 2).toInt ≤ 500 := wt_Rf1 r0
              have bb96 := wt_tn ((wt_gf σ 108 4) + z66.2.1)
              have bb97 := wt_bd (wt_ga σ 109 (Int32.toNatClampNeg ((wt_gf σ 108 4) + z66.2.1)))
              have bb98 := wt_tn z66.2.1
              have g100 : 0 ≤ (wt_ga σ (132 + (Int32.toNatClampNeg z4.1)) (Int32.toNatClampNeg z66.2.1)).toInt ∧ (wt_ga σ (132 + (Int32.toNatClampNeg z4.1)) (Int32.toNatClampNeg z66.2.1)).toInt ≤ 25 := wt_Ra7 r0 (132 + (Int32.toNatClampNeg z4.1)) (show 132 ≤ 132 + (Int32.toNatClampNeg z4.1) by omega) (show 132 + (Int32.toNatClampNeg z4.1) < 192 by omega) (Int32.toNatClampNeg z66.2.1)
              have k101 : (97 : Int32).toInt = 97 := by decide
              obtain ⟨j102, j102a, j102b⟩ := wt_subI r89.1 (97 : Int32)
              refine wt_T_if (fun h103 => ?_) (fun h103 => ?_)
              · skip
                have c104 := wt_ceq h103
                unfold wp_md_wordOf_131_B68
                have k105 : (1 : Int32).toInt = 1 := by decide
                obtain ⟨j106, j106a, j106b⟩ := wt_addI z66.2.1 (1 : Int32)
                refine hKK65 _ ⟨rfl, (wt_nn (B := x1) (by first | with_reducible assumption | omega) (by first | (rw [l68]; omega) | (rw [l68]; done) | omega)), (show ((1 : Int32).toInt = 0 ∨ x1.toInt ≤ 9) by omega)⟩ ?_
                show (x1.toInt - (z66.2.1 + (1 : Int32)).toInt + 0).toNat < (x1.toInt - z66.2.1.toInt + 0).toNat
                exact wt_mu (by first | (rw [l68]; omega) | (rw [l68]; done) | omega) (by first | (rw [l68]; omega) | (rw [l68]; done) | omega)
              · skip
                have c107 := wt_nceq h103
                unfold wp_md_wordOf_131_B68
                have k108 : (1 : Int32).toInt = 1 := by decide
                obtain ⟨j109, j109a, j109b⟩ := wt_addI z66.2.1 (1 : Int32)
                refine hKK65 _ ⟨rfl, (wt_nn (B := x1) (by first | with_reducible assumption | omega) (by first | (rw [l68]; omega) | (rw [l68]; done) | omega)), (show ((0 : Int32).toInt = 0 ∨ x1.toInt ≤ 9) by omega)⟩ ?_
                show (x1.toInt - (z66.2.1 + (1 : Int32)).toInt + 0).toNat < (x1.toInt - z66.2.1.toInt + 0).toNat
                exact wt_mu (by first | (rw [l68]; omega) | (rw [l68]; done) | omega) (by first | (rw [l68]; omega) | (rw [l68]; done) | omega)
        · skip
          exact ⟨rfl, (show 0 ≤ ((0 : Int32)).toInt by omega), (show ((0 : Int32).toInt = 0 ∨ x1.toInt ≤ 9) by omega)⟩
        · skip
          show (x1.toInt - (0 : Int32).toInt + 0).toNat < n
          omega
  · skip
    exact ⟨rfl, (show 0 ≤ ((0 : Int32)).toInt by omega)⟩
  · skip
    show (x4.toInt - (0 : Int32).toInt + 0).toNat < n
    omega
set_option maxRecDepth 100000 in
set_option maxHeartbeats 4000000 in
theorem wq_md_wordOf_192_126 (n : Nat) (hn : 4294967297 < n) (x1 : Int32) (x4 : Int32) (σ : wt_St) (r0 : wt_RI σ) (p0 : x4.toInt ≤ 60) : wt_T (wp_md_wordOf_192 n 126 x1 x4 σ) (fun q => q.2 = σ ∧ (q.1.toInt = -1 ∨ (0 ≤ q.1.toInt ∧ q.1.toInt < x4.toInt))) := by
  have hl125 : wt_ln 125 = 60 := by decide
  have hl126 : wt_ln 126 = 60 := by decide
  have bb1 := wt_bd x1
  have bb2 := wt_bd x4
  unfold wp_md_wordOf_192
  have k8 : (0 : Int32).toInt = 0 := by decide
  refine wt_T_it (fun s : Int32 × wt_St => s.2 = σ ∧ 0 ≤ (s.1).toInt) (fun s : Int32 × wt_St => (x4.toInt - s.1.toInt + 0).toNat) (fun KK3 z4 I5 hKK3 => ?_) _ _ ?_ ?_
  · skip
    obtain ⟨l6, l7⟩ := I5
    unfold wp_md_wordOf_192_B3
    rw [l6]
    have bb9 := wt_bd z4.1
    refine wt_T_if (fun h10 => ?_) (fun h10 => ?_)
    · skip
      have c11 := wt_cle h10
      refine wt_T_some ?_
      have k12 := wt_lm1
      exact ⟨rfl, (show ((-1 : Int32).toInt = -1 ∨ (0 ≤ (-1 : Int32).toInt ∧ (-1 : Int32).toInt < x4.toInt)) from by omega)⟩
    · skip
      have c13 := wt_ncle h10
      have bb14 := wt_ln_bd 126
      refine wt_T_gd (wt_ix (by first | with_reducible assumption | omega) (by first | with_reducible assumption | omega)) ?_
      have bb15 := wt_tn z4.1
      have g17 : 0 ≤ (wt_ga σ 126 (Int32.toNatClampNeg z4.1)).toInt ∧ (wt_ga σ 126 (Int32.toNatClampNeg z4.1)).toInt ≤ 9 := wt_Ra5 r0 126 (by decide) (by decide) (Int32.toNatClampNeg z4.1)
      refine wt_T_if (fun h18 => ?_) (fun h18 => ?_)
      · skip
        have c19 := wt_ceq h18
        unfold wp_md_wordOf_192_B23
        have k26 : (1 : Int32).toInt = 1 := by decide
        refine wt_T_it (fun s : Int32 × Int32 × wt_St => s.2.2 = σ ∧ 0 ≤ (s.2.1).toInt ∧ (s.1.toInt = 0 ∨ x1.toInt ≤ 9)) (fun s : Int32 × Int32 × wt_St => (x1.toInt - s.2.1.toInt + 0).toNat) (fun KK20 z21 I22 hKK20 => ?_) _ _ ?_ ?_
        · skip
          obtain ⟨l23, l24, l25⟩ := I22
          unfold wp_md_wordOf_192_B28
          rw [l23]
          have bb27 := wt_bd z21.2.1
          refine wt_T_if (fun h28 => ?_) (fun h28 => ?_)
          · skip
            have c29 := wt_cle h28
            unfold wp_md_wordOf_192_B76
            have bb30 := wt_bd z21.1
            refine wt_T_if (fun h31 => ?_) (fun h31 => ?_)
            · skip
              have c32 := wt_ceq h31
              refine hKK3 _ ⟨rfl, (wt_nn (B := x4) (by first | with_reducible assumption | omega) (by first | (rw [l6]; omega) | (rw [l6]; done) | omega))⟩ ?_
              show (x4.toInt - (z4.1 + (1 : Int32)).toInt + 0).toNat < (x4.toInt - z4.1.toInt + 0).toNat
              exact wt_mu (by first | (rw [l6]; omega) | (rw [l6]; done) | omega) (by first | (rw [l6]; omega) | (rw [l6]; done) | omega)
            · skip
              have c33 := wt_nceq h31
              refine wt_T_some ?_
              exact ⟨rfl, (show (z4.1.toInt = -1 ∨ (0 ≤ z4.1.toInt ∧ z4.1.toInt < x4.toInt)) from by omega)⟩
          · skip
            have c34 := wt_ncle h28
            have bb35 := wt_bd z21.1
            refine wt_T_if (fun h36 => ?_) (fun h36 => ?_)
            · skip
              have c37 := wt_ceq h36
              unfold wp_md_wordOf_192_B76
              refine wt_T_if (fun h38 => ?_) (fun h38 => ?_)
              · skip
                have c39 := wt_ceq h38
                refine hKK3 _ ⟨rfl, (wt_nn (B := x4) (by first | with_reducible assumption | omega) (by first | (rw [l6]; omega) | (rw [l6]; done) | omega))⟩ ?_
                show (x4.toInt - (z4.1 + (1 : Int32)).toInt + 0).toNat < (x4.toInt - z4.1.toInt + 0).toNat
                exact wt_mu (by first | (rw [l6]; omega) | (rw [l6]; done) | omega) (by first | (rw [l6]; omega) | (rw [l6]; done) | omega)
              · skip
                have c40 := wt_nceq h38
                refine wt_T_some ?_
                exact ⟨rfl, (show (z4.1.toInt = -1 ∨ (0 ≤ z4.1.toInt ∧ z4.1.toInt < x4.toInt)) from by omega)⟩
            · skip
              have c41 := wt_nceq h36
              refine wt_T_gd (wt_ix (by first | with_reducible assumption | omega) (by first | with_reducible assumption | omega)) ?_
              refine wt_T_gd (wt_ix (by first | with_reducible assumption | omega) (by first | with_reducible assumption | omega)) ?_
              have g43 : 0 ≤ (wt_gf σ 108 4).toInt ∧ (wt_gf σ 108 4).toInt ≤ 500 := wt_Rf2 r0
              obtain ⟨j44, j44a, j44b⟩ := wt_addI (wt_gf σ 108 4) z21.2.1
              refine wt_T_bi (wq_md_byteAt n hn ((wt_gf σ 108 4) + z21.2.1) σ r0 (by first | with_reducible assumption | omega)) (fun r45 h46 => ?_)
              obtain ⟨e47, pp48⟩ := h46
              have bb49 := wt_bd r45.1
              rw [e47]
              have g51 : 0 ≤ (wt_gf σ 108 2).toInt ∧ (wt_gf σ 108 2).toInt ≤ 500 := wt_Rf1 r0
              have bb52 := wt_tn ((wt_gf σ 108 4) + z21.2.1)
              have bb53 := wt_bd (wt_ga σ 109 (Int32.toNatClampNeg ((wt_gf σ 108 4) + z21.2.1)))
              have bb54 := wt_tn z21.2.1
              have g56 : 0 ≤ (wt_ga σ (193 + (Int32.toNatClampNeg z4.1)) (Int32.toNatClampNeg z21.2.1)).toInt ∧ (wt_ga σ (193 + (Int32.toNatClampNeg z4.1)) (Int32.toNatClampNeg z21.2.1)).toInt ≤ 25 := wt_Ra8 r0 (193 + (Int32.toNatClampNeg z4.1)) (show 193 ≤ 193 + (Int32.toNatClampNeg z4.1) by omega) (show 193 + (Int32.toNatClampNeg z4.1) < 253 by omega) (Int32.toNatClampNeg z21.2.1)
              have k57 : (97 : Int32).toInt = 97 := by decide
              obtain ⟨j58, j58a, j58b⟩ := wt_subI r45.1 (97 : Int32)
              refine wt_T_if (fun h59 => ?_) (fun h59 => ?_)
              · skip
                have c60 := wt_ceq h59
                unfold wp_md_wordOf_192_B68
                obtain ⟨j61, j61a, j61b⟩ := wt_addI z21.2.1 (1 : Int32)
                refine hKK20 _ ⟨rfl, (wt_nn (B := x1) (by first | with_reducible assumption | omega) (by first | (rw [l23]; omega) | (rw [l23]; done) | omega)), (show ((1 : Int32).toInt = 0 ∨ x1.toInt ≤ 9) by omega)⟩ ?_
                show (x1.toInt - (z21.2.1 + (1 : Int32)).toInt + 0).toNat < (x1.toInt - z21.2.1.toInt + 0).toNat
                exact wt_mu (by first | (rw [l23]; omega) | (rw [l23]; done) | omega) (by first | (rw [l23]; omega) | (rw [l23]; done) | omega)
              · skip
                have c62 := wt_nceq h59
                unfold wp_md_wordOf_192_B68
                obtain ⟨j63, j63a, j63b⟩ := wt_addI z21.2.1 (1 : Int32)
                refine hKK20 _ ⟨rfl, (wt_nn (B := x1) (by first | with_reducible assumption | omega) (by first | (rw [l23]; omega) | (rw [l23]; done) | omega)), (show ((0 : Int32).toInt = 0 ∨ x1.toInt ≤ 9) by omega)⟩ ?_
                show (x1.toInt - (z21.2.1 + (1 : Int32)).toInt + 0).toNat < (x1.toInt - z21.2.1.toInt + 0).toNat
                exact wt_mu (by first | (rw [l23]; omega) | (rw [l23]; done) | omega) (by first | (rw [l23]; omega) | (rw [l23]; done) | omega)
        · skip
          exact ⟨rfl, (show 0 ≤ ((0 : Int32)).toInt by omega), (show ((1 : Int32).toInt = 0 ∨ x1.toInt ≤ 9) by omega)⟩
        · skip
          show (x1.toInt - (0 : Int32).toInt + 0).toNat < n
          omega
      · skip
        have c64 := wt_nceq h18
        unfold wp_md_wordOf_192_B23
        refine wt_T_it (fun s : Int32 × Int32 × wt_St => s.2.2 = σ ∧ 0 ≤ (s.2.1).toInt ∧ (s.1.toInt = 0 ∨ x1.toInt ≤ 9)) (fun s : Int32 × Int32 × wt_St => (x1.toInt - s.2.1.toInt + 0).toNat) (fun KK65 z66 I67 hKK65 => ?_) _ _ ?_ ?_
        · skip
          obtain ⟨l68, l69, l70⟩ := I67
          unfold wp_md_wordOf_192_B28
          rw [l68]
          have bb71 := wt_bd z66.2.1
          refine wt_T_if (fun h72 => ?_) (fun h72 => ?_)
          · skip
            have c73 := wt_cle h72
            unfold wp_md_wordOf_192_B76
            have bb74 := wt_bd z66.1
            refine wt_T_if (fun h75 => ?_) (fun h75 => ?_)
            · skip
              have c76 := wt_ceq h75
              refine hKK3 _ ⟨rfl, (wt_nn (B := x4) (by first | with_reducible assumption | omega) (by first | (rw [l6]; omega) | (rw [l6]; done) | omega))⟩ ?_
              show (x4.toInt - (z4.1 + (1 : Int32)).toInt + 0).toNat < (x4.toInt - z4.1.toInt + 0).toNat
              exact wt_mu (by first | (rw [l6]; omega) | (rw [l6]; done) | omega) (by first | (rw [l6]; omega) | (rw [l6]; done) | omega)
            · skip
              have c77 := wt_nceq h75
              refine wt_T_some ?_
              exact ⟨rfl, (show (z4.1.toInt = -1 ∨ (0 ≤ z4.1.toInt ∧ z4.1.toInt < x4.toInt)) from by omega)⟩
          · skip
            have c78 := wt_ncle h72
            have bb79 := wt_bd z66.1
            refine wt_T_if (fun h80 => ?_) (fun h80 => ?_)
            · skip
              have c81 := wt_ceq h80
              unfold wp_md_wordOf_192_B76
              refine wt_T_if (fun h82 => ?_) (fun h82 => ?_)
              · skip
                have c83 := wt_ceq h82
                refine hKK3 _ ⟨rfl, (wt_nn (B := x4) (by first | with_reducible assumption | omega) (by first | (rw [l6]; omega) | (rw [l6]; done) | omega))⟩ ?_
                show (x4.toInt - (z4.1 + (1 : Int32)).toInt + 0).toNat < (x4.toInt - z4.1.toInt + 0).toNat
                exact wt_mu (by first | (rw [l6]; omega) | (rw [l6]; done) | omega) (by first | (rw [l6]; omega) | (rw [l6]; done) | omega)
              · skip
                have c84 := wt_nceq h82
                refine wt_T_some ?_
                exact ⟨rfl, (show (z4.1.toInt = -1 ∨ (0 ≤ z4.1.toInt ∧ z4.1.toInt < x4.toInt)) from by omega)⟩
            · skip
              have c85 := wt_nceq h80
              refine wt_T_gd (wt_ix (by first | with_reducible assumption | omega) (by first | with_reducible assumption | omega)) ?_
              refine wt_T_gd (wt_ix (by first | with_reducible assumption | omega) (by first | with_reducible assumption | omega)) ?_
              have g87 : 0 ≤ (wt_gf σ 108 4).toInt ∧ (wt_gf σ 108 4).toInt ≤ 500 := wt_Rf2 r0
              obtain ⟨j88, j88a, j88b⟩ := wt_addI (wt_gf σ 108 4) z66.2.1
              refine wt_T_bi (wq_md_byteAt n hn ((wt_gf σ 108 4) + z66.2.1) σ r0 (by first | with_reducible assumption | omega)) (fun r89 h90 => ?_)
              obtain ⟨e91, pp92⟩ := h90
              have bb93 := wt_bd r89.1
              rw [e91]
              have g95 : 0 ≤ (wt_gf σ 108 2).toInt ∧ (wt_gf σ 108 2).toInt ≤ 500 := wt_Rf1 r0
              have bb96 := wt_tn ((wt_gf σ 108 4) + z66.2.1)
              have bb97 := wt_bd (wt_ga σ 109 (Int32.toNatClampNeg ((wt_gf σ 108 4) + z66.2.1)))
              have bb98 := wt_tn z66.2.1
              have g100 : 0 ≤ (wt_ga σ (193 + (Int32.toNatClampNeg z4.1)) (Int32.toNatClampNeg z66.2.1)).toInt ∧ (wt_ga σ (193 + (Int32.toNatClampNeg z4.1)) (Int32.toNatClampNeg z66.2.1)).toInt ≤ 25 := wt_Ra8 r0 (193 + (Int32.toNatClampNeg z4.1)) (show 193 ≤ 193 + (Int32.toNatClampNeg z4.1) by omega) (show 193 + (Int32.toNatClampNeg z4.1) < 253 by omega) (Int32.toNatClampNeg z66.2.1)
              have k101 : (97 : Int32).toInt = 97 := by decide
              obtain ⟨j102, j102a, j102b⟩ := wt_subI r89.1 (97 : Int32)
              refine wt_T_if (fun h103 => ?_) (fun h103 => ?_)
              · skip
                have c104 := wt_ceq h103
                unfold wp_md_wordOf_192_B68
                have k105 : (1 : Int32).toInt = 1 := by decide
                obtain ⟨j106, j106a, j106b⟩ := wt_addI z66.2.1 (1 : Int32)
                refine hKK65 _ ⟨rfl, (wt_nn (B := x1) (by first | with_reducible assumption | omega) (by first | (rw [l68]; omega) | (rw [l68]; done) | omega)), (show ((1 : Int32).toInt = 0 ∨ x1.toInt ≤ 9) by omega)⟩ ?_
                show (x1.toInt - (z66.2.1 + (1 : Int32)).toInt + 0).toNat < (x1.toInt - z66.2.1.toInt + 0).toNat
                exact wt_mu (by first | (rw [l68]; omega) | (rw [l68]; done) | omega) (by first | (rw [l68]; omega) | (rw [l68]; done) | omega)
              · skip
                have c107 := wt_nceq h103
                unfold wp_md_wordOf_192_B68
                have k108 : (1 : Int32).toInt = 1 := by decide
                obtain ⟨j109, j109a, j109b⟩ := wt_addI z66.2.1 (1 : Int32)
                refine hKK65 _ ⟨rfl, (wt_nn (B := x1) (by first | with_reducible assumption | omega) (by first | (rw [l68]; omega) | (rw [l68]; done) | omega)), (show ((0 : Int32).toInt = 0 ∨ x1.toInt ≤ 9) by omega)⟩ ?_
                show (x1.toInt - (z66.2.1 + (1 : Int32)).toInt + 0).toNat < (x1.toInt - z66.2.1.toInt + 0).toNat
                exact wt_mu (by first | (rw [l68]; omega) | (rw [l68]; done) | omega) (by first | (rw [l68]; omega) | (rw [l68]; done) | omega)
        · skip
          exact ⟨rfl, (show 0 ≤ ((0 : Int32)).toInt by omega), (show ((0 : Int32).toInt = 0 ∨ x1.toInt ≤ 9) by omega)⟩
        · skip
          show (x1.toInt - (0 : Int32).toInt + 0).toNat < n
          omega
  · skip
    exact ⟨rfl, (show 0 ≤ ((0 : Int32)).toInt by omega)⟩
  · skip
    show (x4.toInt - (0 : Int32).toInt + 0).toNat < n
    omega
