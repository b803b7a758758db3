set_option maxRecDepth 100000 in
set_option maxHeartbeats 4000000 in
theorem wq_md_takesCase (n : Nat) (hn : 4294967297 < n) (σ : wt_St) (r0 : wt_RI σ) (m0 : wt_M12 σ) : wt_T (wp_md_takesCase n σ) (fun q => wt_fr (fun i k => (i = 108 ∧ k = 25)) (fun i => i = 121 ∨ i = 123 ∨ i = 124 ∨ i = 119 ∨ i = 111 ∨ i = 113 ∨ i = 115 ∨ i = 117) σ q ∧ wt_RI q ∧ wt_M12 q) := by
  unfold wp_md_takesCase
  have k8 : (0 : Int32).toInt = 0 := by decide
  refine wt_T_it (fun s : Int32 × wt_St => wt_fr (fun i k => False) (fun i => i = 111 ∨ i = 113 ∨ i = 115 ∨ i = 117) σ s.2 ∧ 0 ≤ (s.1).toInt ∧ wt_RI s.2 ∧ wt_M12 s.2) (fun s : Int32 × wt_St => ((26 : Int32).toInt - s.1.toInt + 0).toNat) (fun KK1 z2 I3 hKK1 => ?_) _ _ ?_ ?_
  · skip
    obtain ⟨l4, l5, l6, l7⟩ := I3
    unfold wp_md_takesCase_B2
    have k9 : (26 : Int32).toInt = 26 := by decide
    have bb10 := wt_bd z2.1
    refine wt_T_if (fun h11 => ?_) (fun h11 => ?_)
    · skip
      have c12 := wt_cle h11
      refine wt_T_it (fun s : Int32 × wt_St => wt_fr (fun i k => False) (fun i => i = 119) z2.2 s.2 ∧ 0 ≤ (s.1).toInt ∧ wt_RI s.2 ∧ wt_M12 s.2) (fun s : Int32 × wt_St => ((4 : Int32).toInt - s.1.toInt + 0).toNat) (fun KK13 z14 I15 hKK13 => ?_) _ _ ?_ ?_
      · skip
        obtain ⟨l16, l17, l18, l19⟩ := I15
        unfold wp_md_takesCase_B64
        have k20 : (4 : Int32).toInt = 4 := by decide
        have bb21 := wt_bd z14.1
        refine wt_T_if (fun h22 => ?_) (fun h22 => ?_)
        · skip
          have c23 := wt_cle h22
          refine wt_T_it (fun s : Int32 × wt_St => wt_fr (fun i k => False) (fun i => i = 121 ∨ i = 123 ∨ i = 124) z14.2 s.2 ∧ 0 ≤ (s.1).toInt ∧ wt_RI s.2 ∧ wt_M12 s.2) (fun s : Int32 × wt_St => ((338 : Int32).toInt - s.1.toInt + 0).toNat) (fun KK24 z25 I26 hKK24 => ?_) _ _ ?_ ?_
          · skip
            obtain ⟨l27, l28, l29, l30⟩ := I26
            unfold wp_md_takesCase_B89
            have k31 : (338 : Int32).toInt = 338 := by decide
            have bb32 := wt_bd z25.1
            refine wt_T_if (fun h33 => ?_) (fun h33 => ?_)
            · skip
              have c34 := wt_cle h33
              obtain ⟨σ35, eσ35⟩ : ∃ z : wt_St, z = wt_sf z25.2 108 25 (wt_gf z25.2 108 24) := ⟨_, rfl⟩
              rw [← eσ35]
              have fσ35 := wt_fr_sf eσ35
              have vσ35 := wt_ceq (wt_v_sf eσ35)
              have bb36 := wt_bd (wt_gf z25.2 108 24)
              have tt37 : (wt_gf z25.2 108 24).toInt = (wt_gf z14.2 108 24).toInt := congrArg Int32.toInt (l27.1 108 24 (fun z => z))
              have bb38 := wt_bd (wt_gf z14.2 108 24)
              have tt39 : (wt_gf z14.2 108 24).toInt = (wt_gf z2.2 108 24).toInt := congrArg Int32.toInt (l16.1 108 24 (fun z => z))
              have bb40 := wt_bd (wt_gf z2.2 108 24)
              have tt41 : (wt_gf z2.2 108 24).toInt = (wt_gf σ 108 24).toInt := congrArg Int32.toInt (l4.1 108 24 (fun z => z))
              have bb42 := wt_bd (wt_gf σ 108 24)
              have mσ35 := wt_M_sf l30 eσ35
              have rσ35 := wt_RI_fno l29 eσ35 (Or.inr (by decide))
              refine wt_T_some ?_
              exact ⟨(wt_fr.tr (wt_fr.tr (wt_fr.tr (wt_fr.tr wt_fr.rf l4 (fun i k h => h.elim) (fun i h => by (try dsimp only at h); rcases h with h | h | h | h; exact Or.inr (Or.inr (Or.inr (Or.inr (Or.inl (by omega))))); exact Or.inr (Or.inr (Or.inr (Or.inr (Or.inr (Or.inl (by omega)))))); exact Or.inr (Or.inr (Or.inr (Or.inr (Or.inr (Or.inr (Or.inl (by omega))))))); exact Or.inr (Or.inr (Or.inr (Or.inr (Or.inr (Or.inr (Or.inr ((by omega)))))))))) l16 (fun i k h => h.elim) (fun i h => by (try dsimp only at h); exact Or.inr (Or.inr (Or.inr (Or.inl (by omega)))))) l27 (fun i k h => h.elim) (fun i h => by (try dsimp only at h); rcases h with h | h | h; exact Or.inl (by omega); exact Or.inr (Or.inl (by omega)); exact Or.inr (Or.inr (Or.inl (by omega))))) fσ35 (fun i k h => by (try dsimp only at h); exact (by omega)) (fun i h => h.elim)), rσ35, mσ35⟩
            · skip
              have c43 := wt_ncle h33
              refine wt_T_gd (wt_ix (by omega) (by omega)) ?_
              refine wt_T_gd (wt_ix (by omega) (by omega)) ?_
              refine wt_T_gd (wt_ix (by omega) (by omega)) ?_
              refine wt_T_gd (wt_ix (by omega) (by omega)) ?_
              refine wt_T_gd (wt_ix (by omega) (by omega)) ?_
              obtain ⟨σ44, eσ44⟩ : ∃ z : wt_St, z = wt_sa z25.2 121 (Int32.toNatClampNeg z25.1) (wt_ga z25.2 120 (Int32.toNatClampNeg z25.1)) := ⟨_, rfl⟩
              rw [← eσ44]
              have fσ44 := wt_fr_sa eσ44
              have vσ44 := wt_ceq (wt_v_sa eσ44)
              have bb45 := wt_tn z25.1
              have bb46 := wt_bd (wt_ga z25.2 120 (Int32.toNatClampNeg z25.1))
              have g47 : 0 ≤ (wt_ga z25.2 120 (Int32.toNatClampNeg z25.1)).toInt ∧ (wt_ga z25.2 120 (Int32.toNatClampNeg z25.1)).toInt ≤ 400 := wt_R_ga l29 3 rfl 120 (by decide) (by decide) (Int32.toNatClampNeg z25.1)
              have tt48 : (wt_ga z25.2 120 (Int32.toNatClampNeg z25.1)).toInt = (wt_ga z14.2 120 (Int32.toNatClampNeg z25.1)).toInt := congrArg Int32.toInt (l27.2 120 (by (try dsimp only); omega) (Int32.toNatClampNeg z25.1))
              have bb49 := wt_bd (wt_ga z14.2 120 (Int32.toNatClampNeg z25.1))
              have g50 : 0 ≤ (wt_ga z14.2 120 (Int32.toNatClampNeg z25.1)).toInt ∧ (wt_ga z14.2 120 (Int32.toNatClampNeg z25.1)).toInt ≤ 400 := wt_R_ga l18 3 rfl 120 (by decide) (by decide) (Int32.toNatClampNeg z25.1)
              have tt51 : (wt_ga z14.2 120 (Int32.toNatClampNeg z25.1)).toInt = (wt_ga z2.2 120 (Int32.toNatClampNeg z25.1)).toInt := congrArg Int32.toInt (l16.2 120 (by (try dsimp only); omega) (Int32.toNatClampNeg z25.1))
              have bb52 := wt_bd (wt_ga z2.2 120 (Int32.toNatClampNeg z25.1))
              have g53 : 0 ≤ (wt_ga z2.2 120 (Int32.toNatClampNeg z25.1)).toInt ∧ (wt_ga z2.2 120 (Int32.toNatClampNeg z25.1)).toInt ≤ 400 := wt_R_ga l6 3 rfl 120 (by decide) (by decide) (Int32.toNatClampNeg z25.1)
              have tt54 : (wt_ga z2.2 120 (Int32.toNatClampNeg z25.1)).toInt = (wt_ga σ 120 (Int32.toNatClampNeg z25.1)).toInt := congrArg Int32.toInt (l4.2 120 (by (try dsimp only); omega) (Int32.toNatClampNeg z25.1))
              have bb55 := wt_bd (wt_ga σ 120 (Int32.toNatClampNeg z25.1))
              have g56 : 0 ≤ (wt_ga σ 120 (Int32.toNatClampNeg z25.1)).toInt ∧ (wt_ga σ 120 (Int32.toNatClampNeg z25.1)).toInt ≤ 400 := wt_R_ga r0 3 rfl 120 (by decide) (by decide) (Int32.toNatClampNeg z25.1)
              have mσ44 := wt_M_no l30 eσ44 (by first | decide | omega)
              have rσ44 := wt_RI_in l29 eσ44 3 rfl (by decide) (by decide) (show 0 ≤ (wt_ga z25.2 120 (Int32.toNatClampNeg z25.1)).toInt by omega) (show (wt_ga z25.2 120 (Int32.toNatClampNeg z25.1)).toInt ≤ 400 by omega)
              obtain ⟨σ57, eσ57⟩ : ∃ z : wt_St, z = wt_sa σ44 123 (Int32.toNatClampNeg z25.1) (wt_ga σ44 122 (Int32.toNatClampNeg z25.1)) := ⟨_, rfl⟩
              rw [← eσ57]
              have fσ57 := wt_fr_sa eσ57
              have vσ57 := wt_ceq (wt_v_sa eσ57)
              have bb58 := wt_bd (wt_ga σ44 122 (Int32.toNatClampNeg z25.1))
              have g59 : 0 ≤ (wt_ga σ44 122 (Int32.toNatClampNeg z25.1)).toInt ∧ (wt_ga σ44 122 (Int32.toNatClampNeg z25.1)).toInt ≤ 400 := wt_R_ga rσ44 4 rfl 122 (by decide) (by decide) (Int32.toNatClampNeg z25.1)
              have tt60 : (wt_ga σ44 122 (Int32.toNatClampNeg z25.1)).toInt = (wt_ga z25.2 122 (Int32.toNatClampNeg z25.1)).toInt := congrArg Int32.toInt (fσ44.2 122 (by (try dsimp only); omega) (Int32.toNatClampNeg z25.1))
              have bb61 := wt_bd (wt_ga z25.2 122 (Int32.toNatClampNeg z25.1))
              have g62 : 0 ≤ (wt_ga z25.2 122 (Int32.toNatClampNeg z25.1)).toInt ∧ (wt_ga z25.2 122 (Int32.toNatClampNeg z25.1)).toInt ≤ 400 := wt_R_ga l29 4 rfl 122 (by decide) (by decide) (Int32.toNatClampNeg z25.1)
              have tt63 : (wt_ga z25.2 122 (Int32.toNatClampNeg z25.1)).toInt = (wt_ga z14.2 122 (Int32.toNatClampNeg z25.1)).toInt := congrArg Int32.toInt (l27.2 122 (by (try dsimp only); omega) (Int32.toNatClampNeg z25.1))
              have bb64 := wt_bd (wt_ga z14.2 122 (Int32.toNatClampNeg z25.1))
              have g65 : 0 ≤ (wt_ga z14.2 122 (Int32.toNatClampNeg z25.1)).toInt ∧ (wt_ga z14.2 122 (Int32.toNatClampNeg z25.1)).toInt ≤ 400 := wt_R_ga l18 4 rfl 122 (by decide) (by decide) (Int32.toNatClampNeg z25.1)
              have tt66 : (wt_ga z14.2 122 (Int32.toNatClampNeg z25.1)).toInt = (wt_ga z2.2 122 (Int32.toNatClampNeg z25.1)).toInt := congrArg Int32.toInt (l16.2 122 (by (try dsimp only); omega) (Int32.toNatClampNeg z25.1))
              have bb67 := wt_bd (wt_ga z2.2 122 (Int32.toNatClampNeg z25.1))
              have g68 : 0 ≤ (wt_ga z2.2 122 (Int32.toNatClampNeg z25.1)).toInt ∧ (wt_ga z2.2 122 (Int32.toNatClampNeg z25.1)).toInt ≤ 400 := wt_R_ga l6 4 rfl 122 (by decide) (by decide) (Int32.toNatClampNeg z25.1)
              have tt69 : (wt_ga z2.2 122 (Int32.toNatClampNeg z25.1)).toInt = (wt_ga σ 122 (Int32.toNatClampNeg z25.1)).toInt := congrArg Int32.toInt (l4.2 122 (by (try dsimp only); omega) (Int32.toNatClampNeg z25.1))
              have bb70 := wt_bd (wt_ga σ 122 (Int32.toNatClampNeg z25.1))
              have g71 : 0 ≤ (wt_ga σ 122 (Int32.toNatClampNeg z25.1)).toInt ∧ (wt_ga σ 122 (Int32.toNatClampNeg z25.1)).toInt ≤ 400 := wt_R_ga r0 4 rfl 122 (by decide) (by decide) (Int32.toNatClampNeg z25.1)
              have mσ57 := wt_M_no mσ44 eσ57 (by first | decide | omega)
              have rσ57 := wt_RI_in rσ44 eσ57 4 rfl (by decide) (by decide) (show 0 ≤ (wt_ga σ44 122 (Int32.toNatClampNeg z25.1)).toInt by omega) (show (wt_ga σ44 122 (Int32.toNatClampNeg z25.1)).toInt ≤ 400 by omega)
              obtain ⟨σ72, eσ72⟩ : ∃ z : wt_St, z = wt_sa σ57 124 (Int32.toNatClampNeg z25.1) (-1 : Int32) := ⟨_, rfl⟩
              rw [← eσ72]
              have fσ72 := wt_fr_sa eσ72
              have vσ72 := wt_ceq (wt_v_sa eσ72)
              have mσ72 := wt_M_no mσ57 eσ72 (by first | decide | omega)
              have rσ72 := wt_RI_no rσ57 eσ72 124 125 (by decide) (by decide) (by decide)
              refine hKK24 _ ⟨(wt_fr.tr (wt_fr.tr (wt_fr.tr (wt_fr.tr wt_fr.rf l27 (fun i k h => h.elim) (fun i h => by (try dsimp only at h); rcases h with h | h | h; exact Or.inl (by omega); exact Or.inr (Or.inl (by omega)); exact Or.inr (Or.inr ((by omega))))) fσ44 (fun i k h => h.elim) (fun i h => by (try dsimp only at h); exact Or.inl (by omega))) fσ57 (fun i k h => h.elim) (fun i h => by (try dsimp only at h); exact Or.inr (Or.inl (by omega)))) fσ72 (fun i k h => h.elim) (fun i h => by (try dsimp only at h); exact Or.inr (Or.inr ((by omega))))), (wt_nn (B := (338 : Int32)) (by omega) (by omega)), rσ72, mσ72⟩ ?_
              show ((338 : Int32).toInt - (z25.1 + (1 : Int32)).toInt + 0).toNat < ((338 : Int32).toInt - z25.1.toInt + 0).toNat
              exact wt_mu (by omega) (by omega)
          · skip
            have k73 : (338 : Int32).toInt = 338 := by decide
            exact ⟨wt_fr.rf, (show 0 ≤ ((0 : Int32)).toInt by omega), l18, l19⟩
          · skip
            have k74 : (338 : Int32).toInt = 338 := by decide
            show ((338 : Int32).toInt - (0 : Int32).toInt + 0).toNat < n
            omega
        · skip
          have c75 := wt_ncle h22
          refine wt_T_gd (wt_ix (by omega) (by omega)) ?_
          refine wt_T_gd (wt_ix (by omega) (by omega)) ?_
          obtain ⟨σ76, eσ76⟩ : ∃ z : wt_St, z = wt_sa z14.2 119 (Int32.toNatClampNeg z14.1) (wt_ga z14.2 118 (Int32.toNatClampNeg z14.1)) := ⟨_, rfl⟩
          rw [← eσ76]
          have fσ76 := wt_fr_sa eσ76
          have vσ76 := wt_ceq (wt_v_sa eσ76)
          have bb77 := wt_tn z14.1
          have bb78 := wt_bd (wt_ga z14.2 118 (Int32.toNatClampNeg z14.1))
          have tt79 : (wt_ga z14.2 118 (Int32.toNatClampNeg z14.1)).toInt = (wt_ga z2.2 118 (Int32.toNatClampNeg z14.1)).toInt := congrArg Int32.toInt (l16.2 118 (by (try dsimp only); omega) (Int32.toNatClampNeg z14.1))
          have bb80 := wt_bd (wt_ga z2.2 118 (Int32.toNatClampNeg z14.1))
          have tt81 : (wt_ga z2.2 118 (Int32.toNatClampNeg z14.1)).toInt = (wt_ga σ 118 (Int32.toNatClampNeg z14.1)).toInt := congrArg Int32.toInt (l4.2 118 (by (try dsimp only); omega) (Int32.toNatClampNeg z14.1))
          have bb82 := wt_bd (wt_ga σ 118 (Int32.toNatClampNeg z14.1))
          have mσ76 := wt_M_no l19 eσ76 (by first | decide | omega)
          have rσ76 := wt_RI_no l18 eσ76 119 120 (by decide) (by decide) (by decide)
          refine hKK13 _ ⟨(wt_fr.tr (wt_fr.tr wt_fr.rf l16 (fun i k h => h.elim) (fun i h => by (try dsimp only at h); exact (by omega))) fσ76 (fun i k h => h.elim) (fun i h => by (try dsimp only at h); exact (by omega))), (wt_nn (B := (4 : Int32)) (by omega) (by omega)), rσ76, mσ76⟩ ?_
          show ((4 : Int32).toInt - (z14.1 + (1 : Int32)).toInt + 0).toNat < ((4 : Int32).toInt - z14.1.toInt + 0).toNat
          exact wt_mu (by omega) (by omega)
      · skip
        have k83 : (4 : Int32).toInt = 4 := by decide
        exact ⟨wt_fr.rf, (show 0 ≤ ((0 : Int32)).toInt by omega), l6, l7⟩
      · skip
        have k84 : (4 : Int32).toInt = 4 := by decide
        show ((4 : Int32).toInt - (0 : Int32).toInt + 0).toNat < n
        omega
    · skip
      have c85 := wt_ncle h11
      refine wt_T_gd (wt_ix (by omega) (by omega)) ?_
      refine wt_T_gd (wt_ix (by omega) (by omega)) ?_
      refine wt_T_gd (wt_ix (by omega) (by omega)) ?_
      refine wt_T_gd (wt_ix (by omega) (by omega)) ?_
      refine wt_T_gd (wt_ix (by omega) (by omega)) ?_
      refine wt_T_gd (wt_ix (by omega) (by omega)) ?_
      refine wt_T_gd (wt_ix (by omega) (by omega)) ?_
      refine wt_T_gd (wt_ix (by omega) (by omega)) ?_
      obtain ⟨σ86, eσ86⟩ : ∃ z : wt_St, z = wt_sa z2.2 111 (Int32.toNatClampNeg z2.1) (wt_ga z2.2 110 (Int32.toNatClampNeg z2.1)) := ⟨_, rfl⟩
      rw [← eσ86]
      have fσ86 := wt_fr_sa eσ86
      have vσ86 := wt_ceq (wt_v_sa eσ86)
      have bb87 := wt_tn z2.1
      have bb88 := wt_bd (wt_ga z2.2 110 (Int32.toNatClampNeg z2.1))
      have g89 : 0 ≤ (wt_ga z2.2 110 (Int32.toNatClampNeg z2.1)).toInt ∧ (wt_ga z2.2 110 (Int32.toNatClampNeg z2.1)).toInt ≤ 12 := wt_R_ga l6 0 rfl 110 (by decide) (by decide) (Int32.toNatClampNeg z2.1)
      have tt90 : (wt_ga z2.2 110 (Int32.toNatClampNeg z2.1)).toInt = (wt_ga σ 110 (Int32.toNatClampNeg z2.1)).toInt := congrArg Int32.toInt (l4.2 110 (by (try dsimp only); omega) (Int32.toNatClampNeg z2.1))
      have bb91 := wt_bd (wt_ga σ 110 (Int32.toNatClampNeg z2.1))
      have g92 : 0 ≤ (wt_ga σ 110 (Int32.toNatClampNeg z2.1)).toInt ∧ (wt_ga σ 110 (Int32.toNatClampNeg z2.1)).toInt ≤ 12 := wt_R_ga r0 0 rfl 110 (by decide) (by decide) (Int32.toNatClampNeg z2.1)
      have mσ86 := wt_M_in l7 eσ86 (by omega)
      have rσ86 := wt_RI_in l6 eσ86 1 rfl (by decide) (by decide) (show 0 ≤ (wt_ga z2.2 110 (Int32.toNatClampNeg z2.1)).toInt by omega) (show (wt_ga z2.2 110 (Int32.toNatClampNeg z2.1)).toInt ≤ 13 by omega)
      obtain ⟨σ93, eσ93⟩ : ∃ z : wt_St, z = wt_sa σ86 113 (Int32.toNatClampNeg z2.1) (wt_ga σ86 112 (Int32.toNatClampNeg z2.1)) := ⟨_, rfl⟩
      rw [← eσ93]
      have fσ93 := wt_fr_sa eσ93
      have vσ93 := wt_ceq (wt_v_sa eσ93)
      have bb94 := wt_bd (wt_ga σ86 112 (Int32.toNatClampNeg z2.1))
      have g95 : 0 ≤ (wt_ga σ86 112 (Int32.toNatClampNeg z2.1)).toInt ∧ (wt_ga σ86 112 (Int32.toNatClampNeg z2.1)).toInt ≤ 12 := wt_R_ga rσ86 2 rfl 112 (by decide) (by decide) (Int32.toNatClampNeg z2.1)
      have tt96 : (wt_ga σ86 112 (Int32.toNatClampNeg z2.1)).toInt = (wt_ga z2.2 112 (Int32.toNatClampNeg z2.1)).toInt := congrArg Int32.toInt (fσ86.2 112 (by (try dsimp only); omega) (Int32.toNatClampNeg z2.1))
      have bb97 := wt_bd (wt_ga z2.2 112 (Int32.toNatClampNeg z2.1))
      have g98 : 0 ≤ (wt_ga z2.2 112 (Int32.toNatClampNeg z2.1)).toInt ∧ (wt_ga z2.2 112 (Int32.toNatClampNeg z2.1)).toInt ≤ 12 := wt_R_ga l6 2 rfl 112 (by decide) (by decide) (Int32.toNatClampNeg z2.1)
      have tt99 : (wt_ga z2.2 112 (Int32.toNatClampNeg z2.1)).toInt = (wt_ga σ 112 (Int32.toNatClampNeg z2.1)).toInt := congrArg Int32.toInt (l4.2 112 (by (try dsimp only); omega) (Int32.toNatClampNeg z2.1))
      have bb100 := wt_bd (wt_ga σ 112 (Int32.toNatClampNeg z2.1))
      have g101 : 0 ≤ (wt_ga σ 112 (Int32.toNatClampNeg z2.1)).toInt ∧ (wt_ga σ 112 (Int32.toNatClampNeg z2.1)).toInt ≤ 12 := wt_R_ga r0 2 rfl 112 (by decide) (by decide) (Int32.toNatClampNeg z2.1)
      have mσ93 := wt_M_no mσ86 eσ93 (by first | decide | omega)
      have rσ93 := wt_RI_in rσ86 eσ93 2 rfl (by decide) (by decide) (show 0 ≤ (wt_ga σ86 112 (Int32.toNatClampNeg z2.1)).toInt by omega) (show (wt_ga σ86 112 (Int32.toNatClampNeg z2.1)).toInt ≤ 12 by omega)
      obtain ⟨σ102, eσ102⟩ : ∃ z : wt_St, z = wt_sa σ93 115 (Int32.toNatClampNeg z2.1) (wt_ga σ93 114 (Int32.toNatClampNeg z2.1)) := ⟨_, rfl⟩
      rw [← eσ102]
      have fσ102 := wt_fr_sa eσ102
      have vσ102 := wt_ceq (wt_v_sa eσ102)
      have bb103 := wt_bd (wt_ga σ93 114 (Int32.toNatClampNeg z2.1))
      have tt104 : (wt_ga σ93 114 (Int32.toNatClampNeg z2.1)).toInt = (wt_ga σ86 114 (Int32.toNatClampNeg z2.1)).toInt := congrArg Int32.toInt (fσ93.2 114 (by (try dsimp only); omega) (Int32.toNatClampNeg z2.1))
      have bb105 := wt_bd (wt_ga σ86 114 (Int32.toNatClampNeg z2.1))
      have tt106 : (wt_ga σ86 114 (Int32.toNatClampNeg z2.1)).toInt = (wt_ga z2.2 114 (Int32.toNatClampNeg z2.1)).toInt := congrArg Int32.toInt (fσ86.2 114 (by (try dsimp only); omega) (Int32.toNatClampNeg z2.1))
      have bb107 := wt_bd (wt_ga z2.2 114 (Int32.toNatClampNeg z2.1))
      have tt108 : (wt_ga z2.2 114 (Int32.toNatClampNeg z2.1)).toInt = (wt_ga σ 114 (Int32.toNatClampNeg z2.1)).toInt := congrArg Int32.toInt (l4.2 114 (by (try dsimp only); omega) (Int32.toNatClampNeg z2.1))
      have bb109 := wt_bd (wt_ga σ 114 (Int32.toNatClampNeg z2.1))
      have mσ102 := wt_M_no mσ93 eσ102 (by first | decide | omega)
      have rσ102 := wt_RI_no rσ93 eσ102 115 116 (by decide) (by decide) (by decide)
      obtain ⟨σ110, eσ110⟩ : ∃ z : wt_St, z = wt_sa σ102 117 (Int32.toNatClampNeg z2.1) (wt_ga σ102 116 (Int32.toNatClampNeg z2.1)) := ⟨_, rfl⟩
      rw [← eσ110]
      have fσ110 := wt_fr_sa eσ110
      have vσ110 := wt_ceq (wt_v_sa eσ110)
      have bb111 := wt_bd (wt_ga σ102 116 (Int32.toNatClampNeg z2.1))
      have tt112 : (wt_ga σ102 116 (Int32.toNatClampNeg z2.1)).toInt = (wt_ga σ93 116 (Int32.toNatClampNeg z2.1)).toInt := congrArg Int32.toInt (fσ102.2 116 (by (try dsimp only); omega) (Int32.toNatClampNeg z2.1))
      have bb113 := wt_bd (wt_ga σ93 116 (Int32.toNatClampNeg z2.1))
      have tt114 : (wt_ga σ93 116 (Int32.toNatClampNeg z2.1)).toInt = (wt_ga σ86 116 (Int32.toNatClampNeg z2.1)).toInt := congrArg Int32.toInt (fσ93.2 116 (by (try dsimp only); omega) (Int32.toNatClampNeg z2.1))
      have bb115 := wt_bd (wt_ga σ86 116 (Int32.toNatClampNeg z2.1))
      have tt116 : (wt_ga σ86 116 (Int32.toNatClampNeg z2.1)).toInt = (wt_ga z2.2 116 (Int32.toNatClampNeg z2.1)).toInt := congrArg Int32.toInt (fσ86.2 116 (by (try dsimp only); omega) (Int32.toNatClampNeg z2.1))
      have bb117 := wt_bd (wt_ga z2.2 116 (Int32.toNatClampNeg z2.1))
      have tt118 : (wt_ga z2.2 116 (Int32.toNatClampNeg z2.1)).toInt = (wt_ga σ 116 (Int32.toNatClampNeg z2.1)).toInt := congrArg Int32.toInt (l4.2 116 (by (try dsimp only); omega) (Int32.toNatClampNeg z2.1))
      have bb119 := wt_bd (wt_ga σ 116 (Int32.toNatClampNeg z2.1))
      have mσ110 := wt_M_no mσ102 eσ110 (by first | decide | omega)
      have rσ110 := wt_RI_no rσ102 eσ110 117 118 (by decide) (by decide) (by decide)
      refine hKK1 _ ⟨(wt_fr.tr (wt_fr.tr (wt_fr.tr (wt_fr.tr (wt_fr.tr wt_fr.rf l4 (fun i k h => h.elim) (fun i h => by (try dsimp only at h); rcases h with h | h | h | h; exact Or.inl (by omega); exact Or.inr (Or.inl (by omega)); exact Or.inr (Or.inr (Or.inl (by omega))); exact Or.inr (Or.inr (Or.inr ((by omega)))))) fσ86 (fun i k h => h.elim) (fun i h => by (try dsimp only at h); exact Or.inl (by omega))) fσ93 (fun i k h => h.elim) (fun i h => by (try dsimp only at h); exact Or.inr (Or.inl (by omega)))) fσ102 (fun i k h => h.elim) (fun i h => by (try dsimp only at h); exact Or.inr (Or.inr (Or.inl (by omega))))) fσ110 (fun i k h => h.elim) (fun i h => by (try dsimp only at h); exact Or.inr (Or.inr (Or.inr ((by omega)))))), (wt_nn (B := (26 : Int32)) (by omega) (by omega)), rσ110, mσ110⟩ ?_
      show ((26 : Int32).toInt - (z2.1 + (1 : Int32)).toInt + 0).toNat < ((26 : Int32).toInt - z2.1.toInt + 0).toNat
      exact wt_mu (by omega) (by omega)
  · skip
    have k120 : (26 : Int32).toInt = 26 := by decide
    exact ⟨wt_fr.rf, (show 0 ≤ ((0 : Int32)).toInt by omega), r0, m0⟩
  · skip
    have k121 : (26 : Int32).toInt = 26 := by decide
    show ((26 : Int32).toInt - (0 : Int32).toInt + 0).toNat < n
    omega
set_option maxRecDepth 100000 in
set_option maxHeartbeats 4000000 in
theorem wq_md_kase (n : Nat) (hn : 4294967297 < n) (x1 : Int32) (σ : wt_St) (r0 : wt_RI σ) (m0 : wt_M12 σ) : wt_T (wp_md_kase n x1 σ) (fun q => wt_fr (fun i k => (i = 108 ∧ k = 0) ∨ (i = 108 ∧ k = 1) ∨ (i = 108 ∧ k = 2) ∨ (i = 108 ∧ k = 4) ∨ (i = 108 ∧ k = 5) ∨ (i = 108 ∧ k = 6) ∨ (i = 108 ∧ k = 7) ∨ (i = 108 ∧ k = 24) ∨ (i = 108 ∧ k = 3) ∨ (i = 108 ∧ k = 25) ∨ (i = 108 ∧ k = 41)) (fun i => i = 118 ∨ i = 110 ∨ i = 112 ∨ i = 114 ∨ i = 116 ∨ i = 121 ∨ i = 123 ∨ i = 124 ∨ i = 119 ∨ i = 111 ∨ i = 113 ∨ i = 115 ∨ i = 117 ∨ i = 275 ∨ i = 120 ∨ i = 122) σ q.2 ∧ wt_RI q.2 ∧ wt_M12 q.2 ∧ ((x1.toInt < 0 ∨ (wt_gf σ 108 1).toInt < x1.toInt → (wt_gf q.2 108 1).toInt = (wt_gf σ 108 1).toInt) ∧ (0 ≤ x1.toInt ∧ x1.toInt ≤ (wt_gf σ 108 1).toInt → (wt_gf q.2 108 1).toInt = 0))) := by
  have bb1 := wt_bd x1
  unfold wp_md_kase
  obtain ⟨σ2, eσ2⟩ : ∃ z : wt_St, z = wt_sf σ 108 0 (0 : Int32) := ⟨_, rfl⟩
  rw [← eσ2]
  have fσ2 := wt_fr_sf eσ2
  have vσ2 := wt_ceq (wt_v_sf eσ2)
  have k3 : (0 : Int32).toInt = 0 := by decide
  have mσ2 := wt_M_sf m0 eσ2
  have rσ2 := wt_RI_fno r0 eσ2 (Or.inr (by decide))
  have bb4 := wt_bd (wt_gf σ2 108 1)
  have g5 : 0 ≤ (wt_gf σ2 108 1).toInt ∧ (wt_gf σ2 108 1).toInt ≤ 500 := wt_R_gf rσ2 0 rfl
  have tt6 : (wt_gf σ2 108 1).toInt = (wt_gf σ 108 1).toInt := congrArg Int32.toInt (fσ2.1 108 1 (by (try dsimp only); omega))
  have bb7 := wt_bd (wt_gf σ 108 1)
  have g8 : 0 ≤ (wt_gf σ 108 1).toInt ∧ (wt_gf σ 108 1).toInt ≤ 500 := wt_R_gf r0 0 rfl
  refine wt_T_bi (wq_md_in n hn x1 (0 : Int32) (wt_gf σ2 108 1) σ2 rσ2) (fun r9 h10 => ?_)
  obtain ⟨e11, pp12⟩ := h10
  have bb13 := wt_bd r9.1
  rw [e11]
  refine wt_T_if (fun h14 => ?_) (fun h14 => ?_)
  · skip
    have c15 := wt_ceq h14
    unfold wp_md_kase_B23
    have k16 : (1 : Int32).toInt = 1 := by decide
    refine wt_T_bi (wq_md_bad n hn (1 : Int32) (1 : Int32) σ2 rσ2 (by omega)) (fun r17 h18 => ?_)
    obtain ⟨f19, ri20, pp21⟩ := h18
    have mi22 := wt_M_fr mσ2 f19 (by (try dsimp only); first | omega | exact fun h => h)
    have bb23 := wt_bd r17.1
    have bb24 := wt_bd (wt_gf r17.2 108 0)
    have bb25 := wt_bd (wt_gf σ2 108 0)
    refine wt_T_if (fun h26 => ?_) (fun h26 => ?_)
    · skip
      have c27 := wt_ceq h26
      refine wt_T_bi (wq_md_starts n hn x1 r17.2 ri20 (by omega) (by omega)) (fun r28 h29 => ?_)
      obtain ⟨f30, ri31, pp32⟩ := h29
      have mi33 := wt_M_fr mi22 f30 (by (try dsimp only); first | omega | exact fun h => h)
      have bb34 := wt_bd (wt_gf r28 108 1)
      have g35 : 0 ≤ (wt_gf r28 108 1).toInt ∧ (wt_gf r28 108 1).toInt ≤ 500 := wt_R_gf ri31 0 rfl
      have bb36 := wt_bd (wt_gf r28 108 5)
      have g37 : 0 ≤ (wt_gf r28 108 5).toInt ∧ (wt_gf r28 108 5).toInt ≤ 3 := wt_R_gf ri31 3 rfl
      have bb38 := wt_bd (wt_gf r28 108 7)
      have g39 : 0 ≤ (wt_gf r28 108 7).toInt ∧ (wt_gf r28 108 7).toInt ≤ 60 := wt_R_gf ri31 4 rfl
      refine wt_T_bi (wq_md_clearsCase n hn r28 ri31) (fun r40 h41 => ?_)
      obtain ⟨f42, ri43⟩ := h41
      have mi44 := wt_M_fr mi33 f42 (by (try dsimp only); first | omega | exact fun h => h)
      refine wt_T_it (fun s : wt_St => wt_fr (fun i k => (i = 108 ∧ k = 4) ∨ (i = 108 ∧ k = 5) ∨ (i = 108 ∧ k = 6) ∨ (i = 108 ∧ k = 7) ∨ (i = 108 ∧ k = 24)) (fun i => i = 114 ∨ i = 116 ∨ i = 118 ∨ i = 120 ∨ i = 110 ∨ i = 122 ∨ i = 112) r40 s ∧ wt_RI s ∧ wt_M12 s) (fun s : wt_St => (4 * (60 - (wt_gf s 108 7).toInt) + 3 - (wt_gf s 108 5).toInt).toNat) (fun KK45 z46 I47 hKK45 => ?_) _ _ ?_ ?_
      · skip
        obtain ⟨l48, l49, l50⟩ := I47
        unfold wp_md_kase_B41
        have bb51 := wt_bd (wt_gf z46 108 7)
        have g52 : 0 ≤ (wt_gf z46 108 7).toInt ∧ (wt_gf z46 108 7).toInt ≤ 60 := wt_R_gf l49 4 rfl
        have bb53 := wt_bd (wt_gf z46 108 5)
        have g54 : 0 ≤ (wt_gf z46 108 5).toInt ∧ (wt_gf z46 108 5).toInt ≤ 3 := wt_R_gf l49 3 rfl
        refine wt_T_if (fun h55 => ?_) (fun h55 => ?_)
        · skip
          have c56 := wt_ceq h55
          have bb57 := wt_bd (wt_gf z46 108 2)
          have g58 : 0 ≤ (wt_gf z46 108 2).toInt ∧ (wt_gf z46 108 2).toInt ≤ 500 := wt_R_gf l49 1 rfl
          have tt59 : (wt_gf z46 108 2).toInt = (wt_gf r40 108 2).toInt := congrArg Int32.toInt (l48.1 108 2 (by (try dsimp only); omega))
          have bb60 := wt_bd (wt_gf r40 108 2)
          have g61 : 0 ≤ (wt_gf r40 108 2).toInt ∧ (wt_gf r40 108 2).toInt ≤ 500 := wt_R_gf ri43 1 rfl
          have tt62 : (wt_gf r40 108 2).toInt = (wt_gf r28 108 2).toInt := congrArg Int32.toInt (f42.1 108 2 (by (try dsimp only); omega))
          have bb63 := wt_bd (wt_gf r28 108 2)
          have g64 : 0 ≤ (wt_gf r28 108 2).toInt ∧ (wt_gf r28 108 2).toInt ≤ 500 := wt_R_gf ri31 1 rfl
          have bb65 := wt_bd (wt_gf z46 108 4)
          have g66 : 0 ≤ (wt_gf z46 108 4).toInt ∧ (wt_gf z46 108 4).toInt ≤ 500 := wt_R_gf l49 2 rfl
          refine wt_T_if (fun h67 => ?_) (fun h67 => ?_)
          · skip
            have c68 := wt_cle h67
            unfold wp_md_kase_B70
            obtain ⟨σ69, eσ69⟩ : ∃ z : wt_St, z = wt_sf z46 108 3 (wt_gf z46 108 6) := ⟨_, rfl⟩
            rw [← eσ69]
            have fσ69 := wt_fr_sf eσ69
            have vσ69 := wt_ceq (wt_v_sf eσ69)
            have bb70 := wt_bd (wt_gf z46 108 6)
            have mσ69 := wt_M_sf l50 eσ69
            have rσ69 := wt_RI_fno l49 eσ69 (Or.inr (by decide))
            have bb71 := wt_bd (wt_gf σ69 108 5)
            have g72 : 0 ≤ (wt_gf σ69 108 5).toInt ∧ (wt_gf σ69 108 5).toInt ≤ 3 := wt_R_gf rσ69 3 rfl
            have tt73 : (wt_gf σ69 108 5).toInt = (wt_gf z46 108 5).toInt := congrArg Int32.toInt (fσ69.1 108 5 (by (try dsimp only); omega))
            refine wt_T_if (fun h74 => ?_) (fun h74 => ?_)
            · skip
              have c75 := wt_ceq h74
              refine wt_T_bi (wq_md_takesCase n hn σ69 rσ69 mσ69) (fun r76 h77 => ?_)
              obtain ⟨f78, ri79, mi80⟩ := h77
              refine wt_T_it (fun s : Int32 × wt_St => wt_fr (fun i k => False) (fun i => i = 275) r76 s.2 ∧ 0 ≤ (s.1).toInt ∧ wt_RI s.2 ∧ wt_M12 s.2) (fun s : Int32 × wt_St => ((4 : Int32).toInt - s.1.toInt + 0).toNat) (fun KK81 z82 I83 hKK81 => ?_) _ _ ?_ ?_
              · skip
                obtain ⟨l84, l85, l86, l87⟩ := I83
                unfold wp_md_kase_B99
                have k88 : (4 : Int32).toInt = 4 := by decide
                have bb89 := wt_bd z82.1
                refine wt_T_if (fun h90 => ?_) (fun h90 => ?_)
                · skip
                  have c91 := wt_cle h90
                  obtain ⟨σ92, eσ92⟩ : ∃ z : wt_St, z = wt_sf z82.2 108 41 (0 : Int32) := ⟨_, rfl⟩
                  rw [← eσ92]
                  have fσ92 := wt_fr_sf eσ92
                  have vσ92 := wt_ceq (wt_v_sf eσ92)
                  have mσ92 := wt_M_sf l87 eσ92
                  have rσ92 := wt_RI_fin l86 eσ92 9 rfl rfl (show 0 ≤ ((0 : Int32)).toInt by omega) (show ((0 : Int32)).toInt ≤ 3 by omega)
                  refine wt_T_bi (wq_md_allPieces n hn σ92 rσ92) (fun r93 h94 => ?_)
                  have e95 := h94
                  have bb96 := wt_bd r93.1
                  rw [e95]
                  refine wt_T_some ?_
                  have bb97 := wt_bd (wt_gf σ92 108 1)
                  have g98 : 0 ≤ (wt_gf σ92 108 1).toInt ∧ (wt_gf σ92 108 1).toInt ≤ 500 := wt_R_gf rσ92 0 rfl
                  have tt99 : (wt_gf σ92 108 1).toInt = (wt_gf z82.2 108 1).toInt := congrArg Int32.toInt (fσ92.1 108 1 (by (try dsimp only); omega))
                  have bb100 := wt_bd (wt_gf z82.2 108 1)
                  have g101 : 0 ≤ (wt_gf z82.2 108 1).toInt ∧ (wt_gf z82.2 108 1).toInt ≤ 500 := wt_R_gf l86 0 rfl
                  have tt102 : (wt_gf z82.2 108 1).toInt = (wt_gf r76 108 1).toInt := congrArg Int32.toInt (l84.1 108 1 (fun z => z))
                  have bb103 := wt_bd (wt_gf r76 108 1)
                  have g104 : 0 ≤ (wt_gf r76 108 1).toInt ∧ (wt_gf r76 108 1).toInt ≤ 500 := wt_R_gf ri79 0 rfl
                  have tt105 : (wt_gf r76 108 1).toInt = (wt_gf σ69 108 1).toInt := congrArg Int32.toInt (f78.1 108 1 (by (try dsimp only); omega))
                  have bb106 := wt_bd (wt_gf σ69 108 1)
                  have g107 : 0 ≤ (wt_gf σ69 108 1).toInt ∧ (wt_gf σ69 108 1).toInt ≤ 500 := wt_R_gf rσ69 0 rfl
                  have tt108 : (wt_gf σ69 108 1).toInt = (wt_gf z46 108 1).toInt := congrArg Int32.toInt (fσ69.1 108 1 (by (try dsimp only); omega))
                  have bb109 := wt_bd (wt_gf z46 108 1)
                  have g110 : 0 ≤ (wt_gf z46 108 1).toInt ∧ (wt_gf z46 108 1).toInt ≤ 500 := wt_R_gf l49 0 rfl
                  have tt111 : (wt_gf z46 108 1).toInt = (wt_gf r40 108 1).toInt := congrArg Int32.toInt (l48.1 108 1 (by (try dsimp only); omega))
                  have bb112 := wt_bd (wt_gf r40 108 1)
                  have g113 : 0 ≤ (wt_gf r40 108 1).toInt ∧ (wt_gf r40 108 1).toInt ≤ 500 := wt_R_gf ri43 0 rfl
                  have tt114 : (wt_gf r40 108 1).toInt = (wt_gf r28 108 1).toInt := congrArg Int32.toInt (f42.1 108 1 (by (try dsimp only); omega))
                  exact ⟨(wt_fr.tr (wt_fr.tr (wt_fr.tr (wt_fr.tr (wt_fr.tr (wt_fr.tr (wt_fr.tr (wt_fr.tr (wt_fr.tr wt_fr.rf fσ2 (fun i k h => by (try dsimp only at h); exact Or.inl (by omega)) (fun i h => h.elim)) f19 (fun i k h => by (try dsimp only at h); exact Or.inl (by omega)) (fun i h => h.elim)) f30 (fun i k h => by (try dsimp only at h); rcases h with h | h | h | h | h | h; exact Or.inr (Or.inl (by omega)); exact Or.inr (Or.inr (Or.inl (by omega))); exact Or.inr (Or.inr (Or.inr (Or.inl (by omega)))); exact Or.inr (Or.inr (Or.inr (Or.inr (Or.inl (by omega))))); exact Or.inr (Or.inr (Or.inr (Or.inr (Or.inr (Or.inl (by omega)))))); exact Or.inr (Or.inr (Or.inr (Or.inr (Or.inr (Or.inr (Or.inl (by omega)))))))) (fun i h => h.elim)) f42 (fun i k h => by (try dsimp only at h); exact Or.inr (Or.inr (Or.inr (Or.inr (Or.inr (Or.inr (Or.inr (Or.inl (by omega))))))))) (fun i h => by (try dsimp only at h); rcases h with h | h | h | h | h; exact Or.inl (by omega); exact Or.inr (Or.inl (by omega)); exact Or.inr (Or.inr (Or.inl (by omega))); exact Or.inr (Or.inr (Or.inr (Or.inl (by omega)))); exact Or.inr (Or.inr (Or.inr (Or.inr (Or.inl (by omega))))))) l48 (fun i k h => by (try dsimp only at h); rcases h with h | h | h | h | h; exact Or.inr (Or.inr (Or.inr (Or.inl (by omega)))); exact Or.inr (Or.inr (Or.inr (Or.inr (Or.inl (by omega))))); exact Or.inr (Or.inr (Or.inr (Or.inr (Or.inr (Or.inl (by omega)))))); exact Or.inr (Or.inr (Or.inr (Or.inr (Or.inr (Or.inr (Or.inl (by omega))))))); exact Or.inr (Or.inr (Or.inr (Or.inr (Or.inr (Or.inr (Or.inr (Or.inl (by omega))))))))) (fun i h => by (try dsimp only at h); rcases h with h | h | h | h | h | h | h; exact Or.inr (Or.inr (Or.inr (Or.inl (by omega)))); exact Or.inr (Or.inr (Or.inr (Or.inr (Or.inl (by omega))))); exact Or.inl (by omega); exact Or.inr (Or.inr (Or.inr (Or.inr (Or.inr (Or.inr (Or.inr (Or.inr (Or.inr (Or.inr (Or.inr (Or.inr (Or.inr (Or.inr (Or.inl (by omega))))))))))))))); exact Or.inr (Or.inl (by omega)); exact Or.inr (Or.inr (Or.inr (Or.inr (Or.inr (Or.inr (Or.inr (Or.inr (Or.inr (Or.inr (Or.inr (Or.inr (Or.inr (Or.inr (Or.inr ((by omega)))))))))))))))); exact Or.inr (Or.inr (Or.inl (by omega))))) fσ69 (fun i k h => by (try dsimp only at h); exact Or.inr (Or.inr (Or.inr (Or.inr (Or.inr (Or.inr (Or.inr (Or.inr (Or.inl (by omega)))))))))) (fun i h => h.elim)) f78 (fun i k h => by (try dsimp only at h); exact Or.inr (Or.inr (Or.inr (Or.inr (Or.inr (Or.inr (Or.inr (Or.inr (Or.inr (Or.inl (by omega))))))))))) (fun i h => by (try dsimp only at h); rcases h with h | h | h | h | h | h | h | h; exact Or.inr (Or.inr (Or.inr (Or.inr (Or.inr (Or.inl (by omega)))))); exact Or.inr (Or.inr (Or.inr (Or.inr (Or.inr (Or.inr (Or.inl (by omega))))))); exact Or.inr (Or.inr (Or.inr (Or.inr (Or.inr (Or.inr (Or.inr (Or.inl (by omega)))))))); exact Or.inr (Or.inr (Or.inr (Or.inr (Or.inr (Or.inr (Or.inr (Or.inr (Or.inl (by omega))))))))); exact Or.inr (Or.inr (Or.inr (Or.inr (Or.inr (Or.inr (Or.inr (Or.inr (Or.inr (Or.inl (by omega)))))))))); exact Or.inr (Or.inr (Or.inr (Or.inr (Or.inr (Or.inr (Or.inr (Or.inr (Or.inr (Or.inr (Or.inl (by omega))))))))))); exact Or.inr (Or.inr (Or.inr (Or.inr (Or.inr (Or.inr (Or.inr (Or.inr (Or.inr (Or.inr (Or.inr (Or.inl (by omega)))))))))))); exact Or.inr (Or.inr (Or.inr (Or.inr (Or.inr (Or.inr (Or.inr (Or.inr (Or.inr (Or.inr (Or.inr (Or.inr (Or.inl (by omega))))))))))))))) l84 (fun i k h => h.elim) (fun i h => by (try dsimp only at h); exact Or.inr (Or.inr (Or.inr (Or.inr (Or.inr (Or.inr (Or.inr (Or.inr (Or.inr (Or.inr (Or.inr (Or.inr (Or.inr (Or.inl (by omega)))))))))))))))) fσ92 (fun i k h => by (try dsimp only at h); exact Or.inr (Or.inr (Or.inr (Or.inr (Or.inr (Or.inr (Or.inr (Or.inr (Or.inr (Or.inr ((by omega)))))))))))) (fun i h => h.elim)), rσ92, mσ92, (show ((x1.toInt < 0 ∨ (wt_gf σ 108 1).toInt < x1.toInt → (wt_gf σ92 108 1).toInt = (wt_gf σ 108 1).toInt) ∧ (0 ≤ x1.toInt ∧ x1.toInt ≤ (wt_gf σ 108 1).toInt → (wt_gf σ92 108 1).toInt = 0)) from by omega)⟩
                · skip
                  have c115 := wt_ncle h90
                  refine wt_T_gd (wt_ix (by omega) (by omega)) ?_
                  obtain ⟨σ116, eσ116⟩ : ∃ z : wt_St, z = wt_sa z82.2 275 (Int32.toNatClampNeg z82.1) (-1 : Int32) := ⟨_, rfl⟩
                  rw [← eσ116]
                  have fσ116 := wt_fr_sa eσ116
                  have vσ116 := wt_ceq (wt_v_sa eσ116)
                  have bb117 := wt_tn z82.1
                  have mσ116 := wt_M_no l87 eσ116 (by first | decide | omega)
                  have k118 := wt_lm1
                  have rσ116 := wt_RI_in l86 eσ116 12 rfl (by decide) (by decide) (show -1 ≤ ((-1 : Int32)).toInt by omega) (show ((-1 : Int32)).toInt ≤ 7 by omega)
                  refine hKK81 _ ⟨(wt_fr.tr (wt_fr.tr wt_fr.rf l84 (fun i k h => h.elim) (fun i h => by (try dsimp only at h); exact (by omega))) fσ116 (fun i k h => h.elim) (fun i h => by (try dsimp only at h); exact (by omega))), (wt_nn (B := (4 : Int32)) (by omega) (by omega)), rσ116, mσ116⟩ ?_
                  show ((4 : Int32).toInt - (z82.1 + (1 : Int32)).toInt + 0).toNat < ((4 : Int32).toInt - z82.1.toInt + 0).toNat
                  exact wt_mu (by omega) (by omega)
              · skip
                have k119 : (4 : Int32).toInt = 4 := by decide
                exact ⟨wt_fr.rf, (show 0 ≤ ((0 : Int32)).toInt by omega), ri79, mi80⟩
              · skip
                have k120 : (4 : Int32).toInt = 4 := by decide
                show ((4 : Int32).toInt - (0 : Int32).toInt + 0).toNat < n
                omega
            · skip
              have c121 := wt_nceq h74
              refine wt_T_some ?_
              have k122 : (10 : Int32).toInt = 10 := by decide
              obtain ⟨j123, j123a, j123b⟩ := wt_subI (wt_gf σ69 108 5) (10 : Int32)
              have bb124 := wt_bd (wt_gf σ69 108 1)
              have g125 : 0 ≤ (wt_gf σ69 108 1).toInt ∧ (wt_gf σ69 108 1).toInt ≤ 500 := wt_R_gf rσ69 0 rfl
              have tt126 : (wt_gf σ69 108 1).toInt = (wt_gf z46 108 1).toInt := congrArg Int32.toInt (fσ69.1 108 1 (by (try dsimp only); omega))
              have bb127 := wt_bd (wt_gf z46 108 1)
              have g128 : 0 ≤ (wt_gf z46 108 1).toInt ∧ (wt_gf z46 108 1).toInt ≤ 500 := wt_R_gf l49 0 rfl
              have tt129 : (wt_gf z46 108 1).toInt = (wt_gf r40 108 1).toInt := congrArg Int32.toInt (l48.1 108 1 (by (try dsimp only); omega))
              have bb130 := wt_bd (wt_gf r40 108 1)
              have g131 : 0 ≤ (wt_gf r40 108 1).toInt ∧ (wt_gf r40 108 1).toInt ≤ 500 := wt_R_gf ri43 0 rfl
              have tt132 : (wt_gf r40 108 1).toInt = (wt_gf r28 108 1).toInt := congrArg Int32.toInt (f42.1 108 1 (by (try dsimp only); omega))
              exact ⟨(wt_fr.tr (wt_fr.tr (wt_fr.tr (wt_fr.tr (wt_fr.tr (wt_fr.tr wt_fr.rf fσ2 (fun i k h => by (try dsimp only at h); exact Or.inl (by omega)) (fun i h => h.elim)) f19 (fun i k h => by (try dsimp only at h); exact Or.inl (by omega)) (fun i h => h.elim)) f30 (fun i k h => by (try dsimp only at h); rcases h with h | h | h | h | h | h; exact Or.inr (Or.inl (by omega)); exact Or.inr (Or.inr (Or.inl (by omega))); exact Or.inr (Or.inr (Or.inr (Or.inl (by omega)))); exact Or.inr (Or.inr (Or.inr (Or.inr (Or.inl (by omega))))); exact Or.inr (Or.inr (Or.inr (Or.inr (Or.inr (Or.inl (by omega)))))); exact Or.inr (Or.inr (Or.inr (Or.inr (Or.inr (Or.inr (Or.inl (by omega)))))))) (fun i h => h.elim)) f42 (fun i k h => by (try dsimp only at h); exact Or.inr (Or.inr (Or.inr (Or.inr (Or.inr (Or.inr (Or.inr (Or.inl (by omega))))))))) (fun i h => by (try dsimp only at h); rcases h with h | h | h | h | h; exact Or.inl (by omega); exact Or.inr (Or.inl (by omega)); exact Or.inr (Or.inr (Or.inl (by omega))); exact Or.inr (Or.inr (Or.inr (Or.inl (by omega)))); exact Or.inr (Or.inr (Or.inr (Or.inr (Or.inl (by omega))))))) l48 (fun i k h => by (try dsimp only at h); rcases h with h | h | h | h | h; exact Or.inr (Or.inr (Or.inr (Or.inl (by omega)))); exact Or.inr (Or.inr (Or.inr (Or.inr (Or.inl (by omega))))); exact Or.inr (Or.inr (Or.inr (Or.inr (Or.inr (Or.inl (by omega)))))); exact Or.inr (Or.inr (Or.inr (Or.inr (Or.inr (Or.inr (Or.inl (by omega))))))); exact Or.inr (Or.inr (Or.inr (Or.inr (Or.inr (Or.inr (Or.inr (Or.inl (by omega))))))))) (fun i h => by (try dsimp only at h); rcases h with h | h | h | h | h | h | h; exact Or.inr (Or.inr (Or.inr (Or.inl (by omega)))); exact Or.inr (Or.inr (Or.inr (Or.inr (Or.inl (by omega))))); exact Or.inl (by omega); exact Or.inr (Or.inr (Or.inr (Or.inr (Or.inr (Or.inr (Or.inr (Or.inr (Or.inr (Or.inr (Or.inr (Or.inr (Or.inr (Or.inr (Or.inl (by omega))))))))))))))); exact Or.inr (Or.inl (by omega)); exact Or.inr (Or.inr (Or.inr (Or.inr (Or.inr (Or.inr (Or.inr (Or.inr (Or.inr (Or.inr (Or.inr (Or.inr (Or.inr (Or.inr (Or.inr ((by omega)))))))))))))))); exact Or.inr (Or.inr (Or.inl (by omega))))) fσ69 (fun i k h => by (try dsimp only at h); exact Or.inr (Or.inr (Or.inr (Or.inr (Or.inr (Or.inr (Or.inr (Or.inr (Or.inl (by omega)))))))))) (fun i h => h.elim)), rσ69, mσ69, (show ((x1.toInt < 0 ∨ (wt_gf σ 108 1).toInt < x1.toInt → (wt_gf σ69 108 1).toInt = (wt_gf σ 108 1).toInt) ∧ (0 ≤ x1.toInt ∧ x1.toInt ≤ (wt_gf σ 108 1).toInt → (wt_gf σ69 108 1).toInt = 0)) from by omega)⟩
          · skip
            have c133 := wt_ncle h67
            refine wt_T_bi (wq_md_clause n hn z46 l49) (fun r134 h135 => ?_)
            obtain ⟨f136, ri137, pp138⟩ := h135
            have mi139 := wt_M_fr l50 f136 (by (try dsimp only); first | omega | exact fun h => h)
            have bb140 := wt_bd (wt_gf r134 108 7)
            have g141 : 0 ≤ (wt_gf r134 108 7).toInt ∧ (wt_gf r134 108 7).toInt ≤ 60 := wt_R_gf ri137 4 rfl
            have bb142 := wt_bd (wt_gf r134 108 5)
            have g143 : 0 ≤ (wt_gf r134 108 5).toInt ∧ (wt_gf r134 108 5).toInt ≤ 3 := wt_R_gf ri137 3 rfl
            refine wt_T_bi (wq_md_blanks n hn r134 ri137) (fun r144 h145 => ?_)
            obtain ⟨f146, ri147, pp148⟩ := h145
            have mi149 := wt_M_fr mi139 f146 (by (try dsimp only); first | omega | exact fun h => h)
            have bb150 := wt_bd (wt_gf r134 108 4)
            have g151 : 0 ≤ (wt_gf r134 108 4).toInt ∧ (wt_gf r134 108 4).toInt ≤ 500 := wt_R_gf ri137 2 rfl
            have bb152 := wt_bd (wt_gf r144 108 4)
            have g153 : 0 ≤ (wt_gf r144 108 4).toInt ∧ (wt_gf r144 108 4).toInt ≤ 500 := wt_R_gf ri147 2 rfl
            have bb154 := wt_bd (wt_gf r144 108 7)
            have g155 : 0 ≤ (wt_gf r144 108 7).toInt ∧ (wt_gf r144 108 7).toInt ≤ 60 := wt_R_gf ri147 4 rfl
            have tt156 : (wt_gf r144 108 7).toInt = (wt_gf r134 108 7).toInt := congrArg Int32.toInt (f146.1 108 7 (by (try dsimp only); omega))
            have bb157 := wt_bd (wt_gf r144 108 5)
            have g158 : 0 ≤ (wt_gf r144 108 5).toInt ∧ (wt_gf r144 108 5).toInt ≤ 3 := wt_R_gf ri147 3 rfl
            have tt159 : (wt_gf r144 108 5).toInt = (wt_gf r134 108 5).toInt := congrArg Int32.toInt (f146.1 108 5 (by (try dsimp only); omega))
            refine hKK45 _ ⟨(wt_fr.tr (wt_fr.tr (wt_fr.tr wt_fr.rf l48 (fun i k h => by (try dsimp only at h); rcases h with h | h | h | h | h; exact Or.inl (by omega); exact Or.inr (Or.inl (by omega)); exact Or.inr (Or.inr (Or.inl (by omega))); exact Or.inr (Or.inr (Or.inr (Or.inl (by omega)))); exact Or.inr (Or.inr (Or.inr (Or.inr ((by omega)))))) (fun i h => by (try dsimp only at h); rcases h with h | h | h | h | h | h | h; exact Or.inl (by omega); exact Or.inr (Or.inl (by omega)); exact Or.inr (Or.inr (Or.inl (by omega))); exact Or.inr (Or.inr (Or.inr (Or.inl (by omega)))); exact Or.inr (Or.inr (Or.inr (Or.inr (Or.inl (by omega))))); exact Or.inr (Or.inr (Or.inr (Or.inr (Or.inr (Or.inl (by omega)))))); exact Or.inr (Or.inr (Or.inr (Or.inr (Or.inr (Or.inr ((by omega))))))))) f136 (fun i k h => by (try dsimp only at h); rcases h with h | h | h | h | h; exact Or.inl (by omega); exact Or.inr (Or.inl (by omega)); exact Or.inr (Or.inr (Or.inl (by omega))); exact Or.inr (Or.inr (Or.inr (Or.inl (by omega)))); exact Or.inr (Or.inr (Or.inr (Or.inr ((by omega)))))) (fun i h => by (try dsimp only at h); rcases h with h | h | h | h | h | h | h; exact Or.inl (by omega); exact Or.inr (Or.inl (by omega)); exact Or.inr (Or.inr (Or.inl (by omega))); exact Or.inr (Or.inr (Or.inr (Or.inl (by omega)))); exact Or.inr (Or.inr (Or.inr (Or.inr (Or.inl (by omega))))); exact Or.inr (Or.inr (Or.inr (Or.inr (Or.inr (Or.inl (by omega)))))); exact Or.inr (Or.inr (Or.inr (Or.inr (Or.inr (Or.inr ((by omega))))))))) f146 (fun i k h => by (try dsimp only at h); exact Or.inl (by omega)) (fun i h => h.elim)), ri147, mi149⟩ ?_
            show (4 * (60 - (wt_gf r144 108 7).toInt) + 3 - (wt_gf r144 108 5).toInt).toNat < (4 * (60 - (wt_gf z46 108 7).toInt) + 3 - (wt_gf z46 108 5).toInt).toNat
            omega
        · skip
          have c160 := wt_nceq h55
          unfold wp_md_kase_B70
          obtain ⟨σ161, eσ161⟩ : ∃ z : wt_St, z = wt_sf z46 108 3 (wt_gf z46 108 6) := ⟨_, rfl⟩
          rw [← eσ161]
          have fσ161 := wt_fr_sf eσ161
          have vσ161 := wt_ceq (wt_v_sf eσ161)
          have bb162 := wt_bd (wt_gf z46 108 6)
          have mσ161 := wt_M_sf l50 eσ161
          have rσ161 := wt_RI_fno l49 eσ161 (Or.inr (by decide))
          have bb163 := wt_bd (wt_gf σ161 108 5)
          have g164 : 0 ≤ (wt_gf σ161 108 5).toInt ∧ (wt_gf σ161 108 5).toInt ≤ 3 := wt_R_gf rσ161 3 rfl
          have tt165 : (wt_gf σ161 108 5).toInt = (wt_gf z46 108 5).toInt := congrArg Int32.toInt (fσ161.1 108 5 (by (try dsimp only); omega))
          refine wt_T_if (fun h166 => ?_) (fun h166 => ?_)
          · skip
            have c167 := wt_ceq h166
            refine wt_T_bi (wq_md_takesCase n hn σ161 rσ161 mσ161) (fun r168 h169 => ?_)
            obtain ⟨f170, ri171, mi172⟩ := h169
            refine wt_T_it (fun s : Int32 × wt_St => wt_fr (fun i k => False) (fun i => i = 275) r168 s.2 ∧ 0 ≤ (s.1).toInt ∧ wt_RI s.2 ∧ wt_M12 s.2) (fun s : Int32 × wt_St => ((4 : Int32).toInt - s.1.toInt + 0).toNat) (fun KK173 z174 I175 hKK173 => ?_) _ _ ?_ ?_
            · skip
              obtain ⟨l176, l177, l178, l179⟩ := I175
              unfold wp_md_kase_B99
              have k180 : (4 : Int32).toInt = 4 := by decide
              have bb181 := wt_bd z174.1
              refine wt_T_if (fun h182 => ?_) (fun h182 => ?_)
              · skip
                have c183 := wt_cle h182
                obtain ⟨σ184, eσ184⟩ : ∃ z : wt_St, z = wt_sf z174.2 108 41 (0 : Int32) := ⟨_, rfl⟩
                rw [← eσ184]
                have fσ184 := wt_fr_sf eσ184
                have vσ184 := wt_ceq (wt_v_sf eσ184)
                have mσ184 := wt_M_sf l179 eσ184
                have rσ184 := wt_RI_fin l178 eσ184 9 rfl rfl (show 0 ≤ ((0 : Int32)).toInt by omega) (show ((0 : Int32)).toInt ≤ 3 by omega)
                refine wt_T_bi (wq_md_allPieces n hn σ184 rσ184) (fun r185 h186 => ?_)
                have e187 := h186
                have bb188 := wt_bd r185.1
                rw [e187]
                refine wt_T_some ?_
                have bb189 := wt_bd (wt_gf σ184 108 1)
                have g190 : 0 ≤ (wt_gf σ184 108 1).toInt ∧ (wt_gf σ184 108 1).toInt ≤ 500 := wt_R_gf rσ184 0 rfl
                have tt191 : (wt_gf σ184 108 1).toInt = (wt_gf z174.2 108 1).toInt := congrArg Int32.toInt (fσ184.1 108 1 (by (try dsimp only); omega))
                have bb192 := wt_bd (wt_gf z174.2 108 1)
                have g193 : 0 ≤ (wt_gf z174.2 108 1).toInt ∧ (wt_gf z174.2 108 1).toInt ≤ 500 := wt_R_gf l178 0 rfl
                have tt194 : (wt_gf z174.2 108 1).toInt = (wt_gf r168 108 1).toInt := congrArg Int32.toInt (l176.1 108 1 (fun z => z))
                have bb195 := wt_bd (wt_gf r168 108 1)
                have g196 : 0 ≤ (wt_gf r168 108 1).toInt ∧ (wt_gf r168 108 1).toInt ≤ 500 := wt_R_gf ri171 0 rfl
                have tt197 : (wt_gf r168 108 1).toInt = (wt_gf σ161 108 1).toInt := congrArg Int32.toInt (f170.1 108 1 (by (try dsimp only); omega))
                have bb198 := wt_bd (wt_gf σ161 108 1)
                have g199 : 0 ≤ (wt_gf σ161 108 1).toInt ∧ (wt_gf σ161 108 1).toInt ≤ 500 := wt_R_gf rσ161 0 rfl
                have tt200 : (wt_gf σ161 108 1).toInt = (wt_gf z46 108 1).toInt := congrArg Int32.toInt (fσ161.1 108 1 (by (try dsimp only); omega))
                have bb201 := wt_bd (wt_gf z46 108 1)
                have g202 : 0 ≤ (wt_gf z46 108 1).toInt ∧ (wt_gf z46 108 1).toInt ≤ 500 := wt_R_gf l49 0 rfl
                have tt203 : (wt_gf z46 108 1).toInt = (wt_gf r40 108 1).toInt := congrArg Int32.toInt (l48.1 108 1 (by (try dsimp only); omega))
                have bb204 := wt_bd (wt_gf r40 108 1)
                have g205 : 0 ≤ (wt_gf r40 108 1).toInt ∧ (wt_gf r40 108 1).toInt ≤ 500 := wt_R_gf ri43 0 rfl
                have tt206 : (wt_gf r40 108 1).toInt = (wt_gf r28 108 1).toInt := congrArg Int32.toInt (f42.1 108 1 (by (try dsimp only); omega))
                exact ⟨(wt_fr.tr (wt_fr.tr (wt_fr.tr (wt_fr.tr (wt_fr.tr (wt_fr.tr (wt_fr.tr (wt_fr.tr (wt_fr.tr wt_fr.rf fσ2 (fun i k h => by (try dsimp only at h); exact Or.inl (by omega)) (fun i h => h.elim)) f19 (fun i k h => by (try dsimp only at h); exact Or.inl (by omega)) (fun i h => h.elim)) f30 (fun i k h => by (try dsimp only at h); rcases h with h | h | h | h | h | h; exact Or.inr (Or.inl (by omega)); exact Or.inr (Or.inr (Or.inl (by omega))); exact Or.inr (Or.inr (Or.inr (Or.inl (by omega)))); exact Or.inr (Or.inr (Or.inr (Or.inr (Or.inl (by omega))))); exact Or.inr (Or.inr (Or.inr (Or.inr (Or.inr (Or.inl (by omega)))))); exact Or.inr (Or.inr (Or.inr (Or.inr (Or.inr (Or.inr (Or.inl (by omega)))))))) (fun i h => h.elim)) f42 (fun i k h => by (try dsimp only at h); exact Or.inr (Or.inr (Or.inr (Or.inr (Or.inr (Or.inr (Or.inr (Or.inl (by omega))))))))) (fun i h => by (try dsimp only at h); rcases h with h | h | h | h | h; exact Or.inl (by omega); exact Or.inr (Or.inl (by omega)); exact Or.inr (Or.inr (Or.inl (by omega))); exact Or.inr (Or.inr (Or.inr (Or.inl (by omega)))); exact Or.inr (Or.inr (Or.inr (Or.inr (Or.inl (by omega))))))) l48 (fun i k h => by (try dsimp only at h); rcases h with h | h | h | h | h; exact Or.inr (Or.inr (Or.inr (Or.inl (by omega)))); exact Or.inr (Or.inr (Or.inr (Or.inr (Or.inl (by omega))))); exact Or.inr (Or.inr (Or.inr (Or.inr (Or.inr (Or.inl (by omega)))))); exact Or.inr (Or.inr (Or.inr (Or.inr (Or.inr (Or.inr (Or.inl (by omega))))))); exact Or.inr (Or.inr (Or.inr (Or.inr (Or.inr (Or.inr (Or.inr (Or.inl (by omega))))))))) (fun i h => by (try dsimp only at h); rcases h with h | h | h | h | h | h | h; exact Or.inr (Or.inr (Or.inr (Or.inl (by omega)))); exact Or.inr (Or.inr (Or.inr (Or.inr (Or.inl (by omega))))); exact Or.inl (by omega); exact Or.inr (Or.inr (Or.inr (Or.inr (Or.inr (Or.inr (Or.inr (Or.inr (Or.inr (Or.inr (Or.inr (Or.inr (Or.inr (Or.inr (Or.inl (by omega))))))))))))))); exact Or.inr (Or.inl (by omega)); exact Or.inr (Or.inr (Or.inr (Or.inr (Or.inr (Or.inr (Or.inr (Or.inr (Or.inr (Or.inr (Or.inr (Or.inr (Or.inr (Or.inr (Or.inr ((by omega)))))))))))))))); exact Or.inr (Or.inr (Or.inl (by omega))))) fσ161 (fun i k h => by (try dsimp only at h); exact Or.inr (Or.inr (Or.inr (Or.inr (Or.inr (Or.inr (Or.inr (Or.inr (Or.inl (by omega)))))))))) (fun i h => h.elim)) f170 (fun i k h => by (try dsimp only at h); exact Or.inr (Or.inr (Or.inr (Or.inr (Or.inr (Or.inr (Or.inr (Or.inr (Or.inr (Or.inl (by omega))))))))))) (fun i h => by (try dsimp only at h); rcases h with h | h | h | h | h | h | h | h; exact Or.inr (Or.inr (Or.inr (Or.inr (Or.inr (Or.inl (by omega)))))); exact Or.inr (Or.inr (Or.inr (Or.inr (Or.inr (Or.inr (Or.inl (by omega))))))); exact Or.inr (Or.inr (Or.inr (Or.inr (Or.inr (Or.inr (Or.inr (Or.inl (by omega)))))))); exact Or.inr (Or.inr (Or.inr (Or.inr (Or.inr (Or.inr (Or.inr (Or.inr (Or.inl (by omega))))))))); exact Or.inr (Or.inr (Or.inr (Or.inr (Or.inr (Or.inr (Or.inr (Or.inr (Or.inr (Or.inl (by omega)))))))))); exact Or.inr (Or.inr (Or.inr (Or.inr (Or.inr (Or.inr (Or.inr (Or.inr (Or.inr (Or.inr (Or.inl (by omega))))))))))); exact Or.inr (Or.inr (Or.inr (Or.inr (Or.inr (Or.inr (Or.inr (Or.inr (Or.inr (Or.inr (Or.inr (Or.inl (by omega)))))))))))); exact Or.inr (Or.inr (Or.inr (Or.inr (Or.inr (Or.inr (Or.inr (Or.inr (Or.inr (Or.inr (Or.inr (Or.inr (Or.inl (by omega))))))))))))))) l176 (fun i k h => h.elim) (fun i h => by (try dsimp only at h); exact Or.inr (Or.inr (Or.inr (Or.inr (Or.inr (Or.inr (Or.inr (Or.inr (Or.inr (Or.inr (Or.inr (Or.inr (Or.inr (Or.inl (by omega)))))))))))))))) fσ184 (fun i k h => by (try dsimp only at h); exact Or.inr (Or.inr (Or.inr (Or.inr (Or.inr (Or.inr (Or.inr (Or.inr (Or.inr (Or.inr ((by omega)))))))))))) (fun i h => h.elim)), rσ184, mσ184, (show ((x1.toInt < 0 ∨ (wt_gf σ 108 1).toInt < x1.toInt → (wt_gf σ184 108 1).toInt = (wt_gf σ 108 1).toInt) ∧ (0 ≤ x1.toInt ∧ x1.toInt ≤ (wt_gf σ 108 1).toInt → (wt_gf σ184 108 1).toInt = 0)) from by omega)⟩
              · skip
                have c207 := wt_ncle h182
                refine wt_T_gd (wt_ix (by omega) (by omega)) ?_
                obtain ⟨σ208, eσ208⟩ : ∃ z : wt_St, z = wt_sa z174.2 275 (Int32.toNatClampNeg z174.1) (-1 : Int32) := ⟨_, rfl⟩
                rw [← eσ208]
                have fσ208 := wt_fr_sa eσ208
                have vσ208 := wt_ceq (wt_v_sa eσ208)
                have bb209 := wt_tn z174.1
                have mσ208 := wt_M_no l179 eσ208 (by first | decide | omega)
                have k210 := wt_lm1
                have rσ208 := wt_RI_in l178 eσ208 12 rfl (by decide) (by decide) (show -1 ≤ ((-1 : Int32)).toInt by omega) (show ((-1 : Int32)).toInt ≤ 7 by omega)
                refine hKK173 _ ⟨(wt_fr.tr (wt_fr.tr wt_fr.rf l176 (fun i k h => h.elim) (fun i h => by (try dsimp only at h); exact (by omega))) fσ208 (fun i k h => h.elim) (fun i h => by (try dsimp only at h); exact (by omega))), (wt_nn (B := (4 : Int32)) (by omega) (by omega)), rσ208, mσ208⟩ ?_
                show ((4 : Int32).toInt - (z174.1 + (1 : Int32)).toInt + 0).toNat < ((4 : Int32).toInt - z174.1.toInt + 0).toNat
                exact wt_mu (by omega) (by omega)
            · skip
              have k211 : (4 : Int32).toInt = 4 := by decide
              exact ⟨wt_fr.rf, (show 0 ≤ ((0 : Int32)).toInt by omega), ri171, mi172⟩
            · skip
              have k212 : (4 : Int32).toInt = 4 := by decide
              show ((4 : Int32).toInt - (0 : Int32).toInt + 0).toNat < n
              omega
          · skip
            have c213 := wt_nceq h166
            refine wt_T_some ?_
            have k214 : (10 : Int32).toInt = 10 := by decide
            obtain ⟨j215, j215a, j215b⟩ := wt_subI (wt_gf σ161 108 5) (10 : Int32)
            have bb216 := wt_bd (wt_gf σ161 108 1)
            have g217 : 0 ≤ (wt_gf σ161 108 1).toInt ∧ (wt_gf σ161 108 1).toInt ≤ 500 := wt_R_gf rσ161 0 rfl
            have tt218 : (wt_gf σ161 108 1).toInt = (wt_gf z46 108 1).toInt := congrArg Int32.toInt (fσ161.1 108 1 (by (try dsimp only); omega))
            have bb219 := wt_bd (wt_gf z46 108 1)
            have g220 : 0 ≤ (wt_gf z46 108 1).toInt ∧ (wt_gf z46 108 1).toInt ≤ 500 := wt_R_gf l49 0 rfl
            have tt221 : (wt_gf z46 108 1).toInt = (wt_gf r40 108 1).toInt := congrArg Int32.toInt (l48.1 108 1 (by (try dsimp only); omega))
            have bb222 := wt_bd (wt_gf r40 108 1)
            have g223 : 0 ≤ (wt_gf r40 108 1).toInt ∧ (wt_gf r40 108 1).toInt ≤ 500 := wt_R_gf ri43 0 rfl
            have tt224 : (wt_gf r40 108 1).toInt = (wt_gf r28 108 1).toInt := congrArg Int32.toInt (f42.1 108 1 (by (try dsimp only); omega))
            exact ⟨(wt_fr.tr (wt_fr.tr (wt_fr.tr (wt_fr.tr (wt_fr.tr (wt_fr.tr wt_fr.rf fσ2 (fun i k h => by (try dsimp only at h); exact Or.inl (by omega)) (fun i h => h.elim)) f19 (fun i k h => by (try dsimp only at h); exact Or.inl (by omega)) (fun i h => h.elim)) f30 (fun i k h => by (try dsimp only at h); rcases h with h | h | h | h | h | h; exact Or.inr (Or.inl (by omega)); exact Or.inr (Or.inr (Or.inl (by omega))); exact Or.inr (Or.inr (Or.inr (Or.inl (by omega)))); exact Or.inr (Or.inr (Or.inr (Or.inr (Or.inl (by omega))))); exact Or.inr (Or.inr (Or.inr (Or.inr (Or.inr (Or.inl (by omega)))))); exact Or.inr (Or.inr (Or.inr (Or.inr (Or.inr (Or.inr (Or.inl (by omega)))))))) (fun i h => h.elim)) f42 (fun i k h => by (try dsimp only at h); exact Or.inr (Or.inr (Or.inr (Or.inr (Or.inr (Or.inr (Or.inr (Or.inl (by omega))))))))) (fun i h => by (try dsimp only at h); rcases h with h | h | h | h | h; exact Or.inl (by omega); exact Or.inr (Or.inl (by omega)); exact Or.inr (Or.inr (Or.inl (by omega))); exact Or.inr (Or.inr (Or.inr (Or.inl (by omega)))); exact Or.inr (Or.inr (Or.inr (Or.inr (Or.inl (by omega))))))) l48 (fun i k h => by (try dsimp only at h); rcases h with h | h | h | h | h; exact Or.inr (Or.inr (Or.inr (Or.inl (by omega)))); exact Or.inr (Or.inr (Or.inr (Or.inr (Or.inl (by omega))))); exact Or.inr (Or.inr (Or.inr (Or.inr (Or.inr (Or.inl (by omega)))))); exact Or.inr (Or.inr (Or.inr (Or.inr (Or.inr (Or.inr (Or.inl (by omega))))))); exact Or.inr (Or.inr (Or.inr (Or.inr (Or.inr (Or.inr (Or.inr (Or.inl (by omega))))))))) (fun i h => by (try dsimp only at h); rcases h with h | h | h | h | h | h | h; exact Or.inr (Or.inr (Or.inr (Or.inl (by omega)))); exact Or.inr (Or.inr (Or.inr (Or.inr (Or.inl (by omega))))); exact Or.inl (by omega); exact Or.inr (Or.inr (Or.inr (Or.inr (Or.inr (Or.inr (Or.inr (Or.inr (Or.inr (Or.inr (Or.inr (Or.inr (Or.inr (Or.inr (Or.inl (by omega))))))))))))))); exact Or.inr (Or.inl (by omega)); exact Or.inr (Or.inr (Or.inr (Or.inr (Or.inr (Or.inr (Or.inr (Or.inr (Or.inr (Or.inr (Or.inr (Or.inr (Or.inr (Or.inr (Or.inr ((by omega)))))))))))))))); exact Or.inr (Or.inr (Or.inl (by omega))))) fσ161 (fun i k h => by (try dsimp only at h); exact Or.inr (Or.inr (Or.inr (Or.inr (Or.inr (Or.inr (Or.inr (Or.inr (Or.inl (by omega)))))))))) (fun i h => h.elim)), rσ161, mσ161, (show ((x1.toInt < 0 ∨ (wt_gf σ 108 1).toInt < x1.toInt → (wt_gf σ161 108 1).toInt = (wt_gf σ 108 1).toInt) ∧ (0 ≤ x1.toInt ∧ x1.toInt ≤ (wt_gf σ 108 1).toInt → (wt_gf σ161 108 1).toInt = 0)) from by omega)⟩
      · skip
        have bb225 := wt_bd (wt_gf r40 108 7)
        have g226 : 0 ≤ (wt_gf r40 108 7).toInt ∧ (wt_gf r40 108 7).toInt ≤ 60 := wt_R_gf ri43 4 rfl
        have tt227 : (wt_gf r40 108 7).toInt = (wt_gf r28 108 7).toInt := congrArg Int32.toInt (f42.1 108 7 (by (try dsimp only); omega))
        have bb228 := wt_bd (wt_gf r40 108 5)
        have g229 : 0 ≤ (wt_gf r40 108 5).toInt ∧ (wt_gf r40 108 5).toInt ≤ 3 := wt_R_gf ri43 3 rfl
        have tt230 : (wt_gf r40 108 5).toInt = (wt_gf r28 108 5).toInt := congrArg Int32.toInt (f42.1 108 5 (by (try dsimp only); omega))
        exact ⟨wt_fr.rf, ri43, mi44⟩
      · skip
        have bb231 := wt_bd (wt_gf r40 108 7)
        have g232 : 0 ≤ (wt_gf r40 108 7).toInt ∧ (wt_gf r40 108 7).toInt ≤ 60 := wt_R_gf ri43 4 rfl
        have tt233 : (wt_gf r40 108 7).toInt = (wt_gf r28 108 7).toInt := congrArg Int32.toInt (f42.1 108 7 (by (try dsimp only); omega))
        have bb234 := wt_bd (wt_gf r40 108 5)
        have g235 : 0 ≤ (wt_gf r40 108 5).toInt ∧ (wt_gf r40 108 5).toInt ≤ 3 := wt_R_gf ri43 3 rfl
        have tt236 : (wt_gf r40 108 5).toInt = (wt_gf r28 108 5).toInt := congrArg Int32.toInt (f42.1 108 5 (by (try dsimp only); omega))
        show (4 * (60 - (wt_gf r40 108 7).toInt) + 3 - (wt_gf r40 108 5).toInt).toNat < n
        omega
    · skip
      have c237 := wt_nceq h26
      refine wt_T_some ?_
      have bb238 := wt_bd (wt_gf r17.2 108 1)
      have g239 : 0 ≤ (wt_gf r17.2 108 1).toInt ∧ (wt_gf r17.2 108 1).toInt ≤ 500 := wt_R_gf ri20 0 rfl
      have tt240 : (wt_gf r17.2 108 1).toInt = (wt_gf σ2 108 1).toInt := congrArg Int32.toInt (f19.1 108 1 (by (try dsimp only); omega))
      exact ⟨(wt_fr.tr (wt_fr.tr wt_fr.rf fσ2 (fun i k h => by (try dsimp only at h); exact Or.inl (by omega)) (fun i h => h.elim)) f19 (fun i k h => by (try dsimp only at h); exact Or.inl (by omega)) (fun i h => h.elim)), ri20, mi22, (show ((x1.toInt < 0 ∨ (wt_gf σ 108 1).toInt < x1.toInt → (wt_gf r17.2 108 1).toInt = (wt_gf σ 108 1).toInt) ∧ (0 ≤ x1.toInt ∧ x1.toInt ≤ (wt_gf σ 108 1).toInt → (wt_gf r17.2 108 1).toInt = 0)) from by omega)⟩
  · skip
    have c241 := wt_nceq h14
    unfold wp_md_kase_B23
    have k242 : (1 : Int32).toInt = 1 := by decide
    refine wt_T_bi (wq_md_bad n hn (0 : Int32) (1 : Int32) σ2 rσ2 (by omega)) (fun r243 h244 => ?_)
    obtain ⟨f245, ri246, pp247⟩ := h244
    have mi248 := wt_M_fr mσ2 f245 (by (try dsimp only); first | omega | exact fun h => h)
    have bb249 := wt_bd r243.1
    have bb250 := wt_bd (wt_gf r243.2 108 0)
    have bb251 := wt_bd (wt_gf σ2 108 0)
    refine wt_T_if (fun h252 => ?_) (fun h252 => ?_)
    · skip
      have c253 := wt_ceq h252
      refine wt_T_bi (wq_md_starts n hn x1 r243.2 ri246 (by omega) (by omega)) (fun r254 h255 => ?_)
      obtain ⟨f256, ri257, pp258⟩ := h255
      have mi259 := wt_M_fr mi248 f256 (by (try dsimp only); first | omega | exact fun h => h)
      have bb260 := wt_bd (wt_gf r254 108 1)
      have g261 : 0 ≤ (wt_gf r254 108 1).toInt ∧ (wt_gf r254 108 1).toInt ≤ 500 := wt_R_gf ri257 0 rfl
      have bb262 := wt_bd (wt_gf r254 108 5)
      have g263 : 0 ≤ (wt_gf r254 108 5).toInt ∧ (wt_gf r254 108 5).toInt ≤ 3 := wt_R_gf ri257 3 rfl
      have bb264 := wt_bd (wt_gf r254 108 7)
      have g265 : 0 ≤ (wt_gf r254 108 7).toInt ∧ (wt_gf r254 108 7).toInt ≤ 60 := wt_R_gf ri257 4 rfl
      refine wt_T_bi (wq_md_clearsCase n hn r254 ri257) (fun r266 h267 => ?_)
      obtain ⟨f268, ri269⟩ := h267
      have mi270 := wt_M_fr mi259 f268 (by (try dsimp only); first | omega | exact fun h => h)
      refine wt_T_it (fun s : wt_St => wt_fr (fun i k => (i = 108 ∧ k = 4) ∨ (i = 108 ∧ k = 5) ∨ (i = 108 ∧ k = 6) ∨ (i = 108 ∧ k = 7) ∨ (i = 108 ∧ k = 24)) (fun i => i = 114 ∨ i = 116 ∨ i = 118 ∨ i = 120 ∨ i = 110 ∨ i = 122 ∨ i = 112) r266 s ∧ wt_RI s ∧ wt_M12 s) (fun s : wt_St => (4 * (60 - (wt_gf s 108 7).toInt) + 3 - (wt_gf s 108 5).toInt).toNat) (fun KK271 z272 I273 hKK271 => ?_) _ _ ?_ ?_
      · skip
        obtain ⟨l274, l275, l276⟩ := I273
        unfold wp_md_kase_B41
        have bb277 := wt_bd (wt_gf z272 108 7)
        have g278 : 0 ≤ (wt_gf z272 108 7).toInt ∧ (wt_gf z272 108 7).toInt ≤ 60 := wt_R_gf l275 4 rfl
        have bb279 := wt_bd (wt_gf z272 108 5)
        have g280 : 0 ≤ (wt_gf z272 108 5).toInt ∧ (wt_gf z272 108 5).toInt ≤ 3 := wt_R_gf l275 3 rfl
        refine wt_T_if (fun h281 => ?_) (fun h281 => ?_)
        · skip
          have c282 := wt_ceq h281
          have bb283 := wt_bd (wt_gf z272 108 2)
          have g284 : 0 ≤ (wt_gf z272 108 2).toInt ∧ (wt_gf z272 108 2).toInt ≤ 500 := wt_R_gf l275 1 rfl
          have tt285 : (wt_gf z272 108 2).toInt = (wt_gf r266 108 2).toInt := congrArg Int32.toInt (l274.1 108 2 (by (try dsimp only); omega))
          have bb286 := wt_bd (wt_gf r266 108 2)
          have g287 : 0 ≤ (wt_gf r266 108 2).toInt ∧ (wt_gf r266 108 2).toInt ≤ 500 := wt_R_gf ri269 1 rfl
          have tt288 : (wt_gf r266 108 2).toInt = (wt_gf r254 108 2).toInt := congrArg Int32.toInt (f268.1 108 2 (by (try dsimp only); omega))
          have bb289 := wt_bd (wt_gf r254 108 2)
          have g290 : 0 ≤ (wt_gf r254 108 2).toInt ∧ (wt_gf r254 108 2).toInt ≤ 500 := wt_R_gf ri257 1 rfl
          have bb291 := wt_bd (wt_gf z272 108 4)
          have g292 : 0 ≤ (wt_gf z272 108 4).toInt ∧ (wt_gf z272 108 4).toInt ≤ 500 := wt_R_gf l275 2 rfl
          refine wt_T_if (fun h293 => ?_) (fun h293 => ?_)
          · skip
            have c294 := wt_cle h293
            unfold wp_md_kase_B70
            obtain ⟨σ295, eσ295⟩ : ∃ z : wt_St, z = wt_sf z272 108 3 (wt_gf z272 108 6) := ⟨_, rfl⟩
            rw [← eσ295]
            have fσ295 := wt_fr_sf eσ295
            have vσ295 := wt_ceq (wt_v_sf eσ295)
            have bb296 := wt_bd (wt_gf z272 108 6)
            have mσ295 := wt_M_sf l276 eσ295
            have rσ295 := wt_RI_fno l275 eσ295 (Or.inr (by decide))
            have bb297 := wt_bd (wt_gf σ295 108 5)
            have g298 : 0 ≤ (wt_gf σ295 108 5).toInt ∧ (wt_gf σ295 108 5).toInt ≤ 3 := wt_R_gf rσ295 3 rfl
            have tt299 : (wt_gf σ295 108 5).toInt = (wt_gf z272 108 5).toInt := congrArg Int32.toInt (fσ295.1 108 5 (by (try dsimp only); omega))
            refine wt_T_if (fun h300 => ?_) (fun h300 => ?_)
            · skip
              have c301 := wt_ceq h300
              refine wt_T_bi (wq_md_takesCase n hn σ295 rσ295 mσ295) (fun r302 h303 => ?_)
              obtain ⟨f304, ri305, mi306⟩ := h303
              refine wt_T_it (fun s : Int32 × wt_St => wt_fr (fun i k => False) (fun i => i = 275) r302 s.2 ∧ 0 ≤ (s.1).toInt ∧ wt_RI s.2 ∧ wt_M12 s.2) (fun s : Int32 × wt_St => ((4 : Int32).toInt - s.1.toInt + 0).toNat) (fun KK307 z308 I309 hKK307 => ?_) _ _ ?_ ?_
              · skip
                obtain ⟨l310, l311, l312, l313⟩ := I309
                unfold wp_md_kase_B99
                have k314 : (4 : Int32).toInt = 4 := by decide
                have bb315 := wt_bd z308.1
                refine wt_T_if (fun h316 => ?_) (fun h316 => ?_)
                · skip
                  have c317 := wt_cle h316
                  obtain ⟨σ318, eσ318⟩ : ∃ z : wt_St, z = wt_sf z308.2 108 41 (0 : Int32) := ⟨_, rfl⟩
                  rw [← eσ318]
                  have fσ318 := wt_fr_sf eσ318
                  have vσ318 := wt_ceq (wt_v_sf eσ318)
                  have mσ318 := wt_M_sf l313 eσ318
                  have rσ318 := wt_RI_fin l312 eσ318 9 rfl rfl (show 0 ≤ ((0 : Int32)).toInt by omega) (show ((0 : Int32)).toInt ≤ 3 by omega)
                  refine wt_T_bi (wq_md_allPieces n hn σ318 rσ318) (fun r319 h320 => ?_)
                  have e321 := h320
                  have bb322 := wt_bd r319.1
                  rw [e321]
                  refine wt_T_some ?_
                  have bb323 := wt_bd (wt_gf σ318 108 1)
                  have g324 : 0 ≤ (wt_gf σ318 108 1).toInt ∧ (wt_gf σ318 108 1).toInt ≤ 500 := wt_R_gf rσ318 0 rfl
                  have tt325 : (wt_gf σ318 108 1).toInt = (wt_gf z308.2 108 1).toInt := congrArg Int32.toInt (fσ318.1 108 1 (by (try dsimp only); omega))
                  have bb326 := wt_bd (wt_gf z308.2 108 1)
                  have g327 : 0 ≤ (wt_gf z308.2 108 1).toInt ∧ (wt_gf z308.2 108 1).toInt ≤ 500 := wt_R_gf l312 0 rfl
                  have tt328 : (wt_gf z308.2 108 1).toInt = (wt_gf r302 108 1).toInt := congrArg Int32.toInt (l310.1 108 1 (fun z => z))
                  have bb329 := wt_bd (wt_gf r302 108 1)
                  have g330 : 0 ≤ (wt_gf r302 108 1).toInt ∧ (wt_gf r302 108 1).toInt ≤ 500 := wt_R_gf ri305 0 rfl
                  have tt331 : (wt_gf r302 108 1).toInt = (wt_gf σ295 108 1).toInt := congrArg Int32.toInt (f304.1 108 1 (by (try dsimp only); omega))
                  have bb332 := wt_bd (wt_gf σ295 108 1)
                  have g333 : 0 ≤ (wt_gf σ295 108 1).toInt ∧ (wt_gf σ295 108 1).toInt ≤ 500 := wt_R_gf rσ295 0 rfl
                  have tt334 : (wt_gf σ295 108 1).toInt = (wt_gf z272 108 1).toInt := congrArg Int32.toInt (fσ295.1 108 1 (by (try dsimp only); omega))
                  have bb335 := wt_bd (wt_gf z272 108 1)
                  have g336 : 0 ≤ (wt_gf z272 108 1).toInt ∧ (wt_gf z272 108 1).toInt ≤ 500 := wt_R_gf l275 0 rfl
                  have tt337 : (wt_gf z272 108 1).toInt = (wt_gf r266 108 1).toInt := congrArg Int32.toInt (l274.1 108 1 (by (try dsimp only); omega))
                  have bb338 := wt_bd (wt_gf r266 108 1)
                  have g339 : 0 ≤ (wt_gf r266 108 1).toInt ∧ (wt_gf r266 108 1).toInt ≤ 500 := wt_R_gf ri269 0 rfl
                  have tt340 : (wt_gf r266 108 1).toInt = (wt_gf r254 108 1).toInt := congrArg Int32.toInt (f268.1 108 1 (by (try dsimp only); omega))
                  exact ⟨(wt_fr.tr (wt_fr.tr (wt_fr.tr (wt_fr.tr (wt_fr.tr (wt_fr.tr (wt_fr.tr (wt_fr.tr (wt_fr.tr wt_fr.rf fσ2 (fun i k h => by (try dsimp only at h); exact Or.inl (by omega)) (fun i h => h.elim)) f245 (fun i k h => by (try dsimp only at h); exact Or.inl (by omega)) (fun i h => h.elim)) f256 (fun i k h => by (try dsimp only at h); rcases h with h | h | h | h | h | h; exact Or.inr (Or.inl (by omega)); exact Or.inr (Or.inr (Or.inl (by omega))); exact Or.inr (Or.inr (Or.inr (Or.inl (by omega)))); exact Or.inr (Or.inr (Or.inr (Or.inr (Or.inl (by omega))))); exact Or.inr (Or.inr (Or.inr (Or.inr (Or.inr (Or.inl (by omega)))))); exact Or.inr (Or.inr (Or.inr (Or.inr (Or.inr (Or.inr (Or.inl (by omega)))))))) (fun i h => h.elim)) f268 (fun i k h => by (try dsimp only at h); exact Or.inr (Or.inr (Or.inr (Or.inr (Or.inr (Or.inr (Or.inr (Or.inl (by omega))))))))) (fun i h => by (try dsimp only at h); rcases h with h | h | h | h | h; exact Or.inl (by omega); exact Or.inr (Or.inl (by omega)); exact Or.inr (Or.inr (Or.inl (by omega))); exact Or.inr (Or.inr (Or.inr (Or.inl (by omega)))); exact Or.inr (Or.inr (Or.inr (Or.inr (Or.inl (by omega))))))) l274 (fun i k h => by (try dsimp only at h); rcases h with h | h | h | h | h; exact Or.inr (Or.inr (Or.inr (Or.inl (by omega)))); exact Or.inr (Or.inr (Or.inr (Or.inr (Or.inl (by omega))))); exact Or.inr (Or.inr (Or.inr (Or.inr (Or.inr (Or.inl (by omega)))))); exact Or.inr (Or.inr (Or.inr (Or.inr (Or.inr (Or.inr (Or.inl (by omega))))))); exact Or.inr (Or.inr (Or.inr (Or.inr (Or.inr (Or.inr (Or.inr (Or.inl (by omega))))))))) (fun i h => by (try dsimp only at h); rcases h with h | h | h | h | h | h | h; exact Or.inr (Or.inr (Or.inr (Or.inl (by omega)))); exact Or.inr (Or.inr (Or.inr (Or.inr (Or.inl (by omega))))); exact Or.inl (by omega); exact Or.inr (Or.inr (Or.inr (Or.inr (Or.inr (Or.inr (Or.inr (Or.inr (Or.inr (Or.inr (Or.inr (Or.inr (Or.inr (Or.inr (Or.inl (by omega))))))))))))))); exact Or.inr (Or.inl (by omega)); exact Or.inr (Or.inr (Or.inr (Or.inr (Or.inr (Or.inr (Or.inr (Or.inr (Or.inr (Or.inr (Or.inr (Or.inr (Or.inr (Or.inr (Or.inr ((by omega)))))))))))))))); exact Or.inr (Or.inr (Or.inl (by omega))))) fσ295 (fun i k h => by (try dsimp only at h); exact Or.inr (Or.inr (Or.inr (Or.inr (Or.inr (Or.inr (Or.inr (Or.inr (Or.inl (by omega)))))))))) (fun i h => h.elim)) f304 (fun i k h => by (try dsimp only at h); exact Or.inr (Or.inr (Or.inr (Or.inr (Or.inr (Or.inr (Or.inr (Or.inr (Or.inr (Or.inl (by omega))))))))))) (fun i h => by (try dsimp only at h); rcases h with h | h | h | h | h | h | h | h; exact Or.inr (Or.inr (Or.inr (Or.inr (Or.inr (Or.inl (by omega)))))); exact Or.inr (Or.inr (Or.inr (Or.inr (Or.inr (Or.inr (Or.inl (by omega))))))); exact Or.inr (Or.inr (Or.inr (Or.inr (Or.inr (Or.inr (Or.inr (Or.inl (by omega)))))))); exact Or.inr (Or.inr (Or.inr (Or.inr (Or.inr (Or.inr (Or.inr (Or.inr (Or.inl (by omega))))))))); exact Or.inr (Or.inr (Or.inr (Or.inr (Or.inr (Or.inr (Or.inr (Or.inr (Or.inr (Or.inl (by omega)))))))))); exact Or.inr (Or.inr (Or.inr (Or.inr (Or.inr (Or.inr (Or.inr (Or.inr (Or.inr (Or.inr (Or.inl (by omega))))))))))); exact Or.inr (Or.inr (Or.inr (Or.inr (Or.inr (Or.inr (Or.inr (Or.inr (Or.inr (Or.inr (Or.inr (Or.inl (by omega)))))))))))); exact Or.inr (Or.inr (Or.inr (Or.inr (Or.inr (Or.inr (Or.inr (Or.inr (Or.inr (Or.inr (Or.inr (Or.inr (Or.inl (by omega))))))))))))))) l310 (fun i k h => h.elim) (fun i h => by (try dsimp only at h); exact Or.inr (Or.inr (Or.inr (Or.inr (Or.inr (Or.inr (Or.inr (Or.inr (Or.inr (Or.inr (Or.inr (Or.inr (Or.inr (Or.inl (by omega)))))))))))))))) fσ318 (fun i k h => by (try dsimp only at h); exact Or.inr (Or.inr (Or.inr (Or.inr (Or.inr (Or.inr (Or.inr (Or.inr (Or.inr (Or.inr ((by omega)))))))))))) (fun i h => h.elim)), rσ318, mσ318, (show ((x1.toInt < 0 ∨ (wt_gf σ 108 1).toInt < x1.toInt → (wt_gf σ318 108 1).toInt = (wt_gf σ 108 1).toInt) ∧ (0 ≤ x1.toInt ∧ x1.toInt ≤ (wt_gf σ 108 1).toInt → (wt_gf σ318 108 1).toInt = 0)) from by omega)⟩
                · skip
                  have c341 := wt_ncle h316
                  refine wt_T_gd (wt_ix (by omega) (by omega)) ?_
                  obtain ⟨σ342, eσ342⟩ : ∃ z : wt_St, z = wt_sa z308.2 275 (Int32.toNatClampNeg z308.1) (-1 : Int32) := ⟨_, rfl⟩
                  rw [← eσ342]
                  have fσ342 := wt_fr_sa eσ342
                  have vσ342 := wt_ceq (wt_v_sa eσ342)
                  have bb343 := wt_tn z308.1
                  have mσ342 := wt_M_no l313 eσ342 (by first | decide | omega)
                  have k344 := wt_lm1
                  have rσ342 := wt_RI_in l312 eσ342 12 rfl (by decide) (by decide) (show -1 ≤ ((-1 : Int32)).toInt by omega) (show ((-1 : Int32)).toInt ≤ 7 by omega)
                  refine hKK307 _ ⟨(wt_fr.tr (wt_fr.tr wt_fr.rf l310 (fun i k h => h.elim) (fun i h => by (try dsimp only at h); exact (by omega))) fσ342 (fun i k h => h.elim) (fun i h => by (try dsimp only at h); exact (by omega))), (wt_nn (B := (4 : Int32)) (by omega) (by omega)), rσ342, mσ342⟩ ?_
                  show ((4 : Int32).toInt - (z308.1 + (1 : Int32)).toInt + 0).toNat < ((4 : Int32).toInt - z308.1.toInt + 0).toNat
                  exact wt_mu (by omega) (by omega)
              · skip
                have k345 : (4 : Int32).toInt = 4 := by decide
                exact ⟨wt_fr.rf, (show 0 ≤ ((0 : Int32)).toInt by omega), ri305, mi306⟩
              · skip
                have k346 : (4 : Int32).toInt = 4 := by decide
                show ((4 : Int32).toInt - (0 : Int32).toInt + 0).toNat < n
                omega
            · skip
              have c347 := wt_nceq h300
              refine wt_T_some ?_
              have k348 : (10 : Int32).toInt = 10 := by decide
              obtain ⟨j349, j349a, j349b⟩ := wt_subI (wt_gf σ295 108 5) (10 : Int32)
              have bb350 := wt_bd (wt_gf σ295 108 1)
              have g351 : 0 ≤ (wt_gf σ295 108 1).toInt ∧ (wt_gf σ295 108 1).toInt ≤ 500 := wt_R_gf rσ295 0 rfl
              have tt352 : (wt_gf σ295 108 1).toInt = (wt_gf z272 108 1).toInt := congrArg Int32.toInt (fσ295.1 108 1 (by (try dsimp only); omega))
              have bb353 := wt_bd (wt_gf z272 108 1)
              have g354 : 0 ≤ (wt_gf z272 108 1).toInt ∧ (wt_gf z272 108 1).toInt ≤ 500 := wt_R_gf l275 0 rfl
              have tt355 : (wt_gf z272 108 1).toInt = (wt_gf r266 108 1).toInt := congrArg Int32.toInt (l274.1 108 1 (by (try dsimp only); omega))
              have bb356 := wt_bd (wt_gf r266 108 1)
              have g357 : 0 ≤ (wt_gf r266 108 1).toInt ∧ (wt_gf r266 108 1).toInt ≤ 500 := wt_R_gf ri269 0 rfl
              have tt358 : (wt_gf r266 108 1).toInt = (wt_gf r254 108 1).toInt := congrArg Int32.toInt (f268.1 108 1 (by (try dsimp only); omega))
              exact ⟨(wt_fr.tr (wt_fr.tr (wt_fr.tr (wt_fr.tr (wt_fr.tr (wt_fr.tr wt_fr.rf fσ2 (fun i k h => by (try dsimp only at h); exact Or.inl (by omega)) (fun i h => h.elim)) f245 (fun i k h => by (try dsimp only at h); exact Or.inl (by omega)) (fun i h => h.elim)) f256 (fun i k h => by (try dsimp only at h); rcases h with h | h | h | h | h | h; exact Or.inr (Or.inl (by omega)); exact Or.inr (Or.inr (Or.inl (by omega))); exact Or.inr (Or.inr (Or.inr (Or.inl (by omega)))); exact Or.inr (Or.inr (Or.inr (Or.inr (Or.inl (by omega))))); exact Or.inr (Or.inr (Or.inr (Or.inr (Or.inr (Or.inl (by omega)))))); exact Or.inr (Or.inr (Or.inr (Or.inr (Or.inr (Or.inr (Or.inl (by omega)))))))) (fun i h => h.elim)) f268 (fun i k h => by (try dsimp only at h); exact Or.inr (Or.inr (Or.inr (Or.inr (Or.inr (Or.inr (Or.inr (Or.inl (by omega))))))))) (fun i h => by (try dsimp only at h); rcases h with h | h | h | h | h; exact Or.inl (by omega); exact Or.inr (Or.inl (by omega)); exact Or.inr (Or.inr (Or.inl (by omega))); exact Or.inr (Or.inr (Or.inr (Or.inl (by omega)))); exact Or.inr (Or.inr (Or.inr (Or.inr (Or.inl (by omega))))))) l274 (fun i k h => by (try dsimp only at h); rcases h with h | h | h | h | h; exact Or.inr (Or.inr (Or.inr (Or.inl (by omega)))); exact Or.inr (Or.inr (Or.inr (Or.inr (Or.inl (by omega))))); exact Or.inr (Or.inr (Or.inr (Or.inr (Or.inr (Or.inl (by omega)))))); exact Or.inr (Or.inr (Or.inr (Or.inr (Or.inr (Or.inr (Or.inl (by omega))))))); exact Or.inr (Or.inr (Or.inr (Or.inr (Or.inr (Or.inr (Or.inr (Or.inl (by omega))))))))) (fun i h => by (try dsimp only at h); rcases h with h | h | h | h | h | h | h; exact Or.inr (Or.inr (Or.inr (Or.inl (by omega)))); exact Or.inr (Or.inr (Or.inr (Or.inr (Or.inl (by omega))))); exact Or.inl (by omega); exact Or.inr (Or.inr (Or.inr (Or.inr (Or.inr (Or.inr (Or.inr (Or.inr (Or.inr (Or.inr (Or.inr (Or.inr (Or.inr (Or.inr (Or.inl (by omega))))))))))))))); exact Or.inr (Or.inl (by omega)); exact Or.inr (Or.inr (Or.inr (Or.inr (Or.inr (Or.inr (Or.inr (Or.inr (Or.inr (Or.inr (Or.inr (Or.inr (Or.inr (Or.inr (Or.inr ((by omega)))))))))))))))); exact Or.inr (Or.inr (Or.inl (by omega))))) fσ295 (fun i k h => by (try dsimp only at h); exact Or.inr (Or.inr (Or.inr (Or.inr (Or.inr (Or.inr (Or.inr (Or.inr (Or.inl (by omega)))))))))) (fun i h => h.elim)), rσ295, mσ295, (show ((x1.toInt < 0 ∨ (wt_gf σ 108 1).toInt < x1.toInt → (wt_gf σ295 108 1).toInt = (wt_gf σ 108 1).toInt) ∧ (0 ≤ x1.toInt ∧ x1.toInt ≤ (wt_gf σ 108 1).toInt → (wt_gf σ295 108 1).toInt = 0)) from by omega)⟩
          · skip
            have c359 := wt_ncle h293
            refine wt_T_bi (wq_md_clause n hn z272 l275) (fun r360 h361 => ?_)
            obtain ⟨f362, ri363, pp364⟩ := h361
            have mi365 := wt_M_fr l276 f362 (by (try dsimp only); first | omega | exact fun h => h)
            have bb366 := wt_bd (wt_gf r360 108 7)
            have g367 : 0 ≤ (wt_gf r360 108 7).toInt ∧ (wt_gf r360 108 7).toInt ≤ 60 := wt_R_gf ri363 4 rfl
            have bb368 := wt_bd (wt_gf r360 108 5)
            have g369 : 0 ≤ (wt_gf r360 108 5).toInt ∧ (wt_gf r360 108 5).toInt ≤ 3 := wt_R_gf ri363 3 rfl
            refine wt_T_bi (wq_md_blanks n hn r360 ri363) (fun r370 h371 => ?_)
            obtain ⟨f372, ri373, pp374⟩ := h371
            have mi375 := wt_M_fr mi365 f372 (by (try dsimp only); first | omega | exact fun h => h)
            have bb376 := wt_bd (wt_gf r360 108 4)
            have g377 : 0 ≤ (wt_gf r360 108 4).toInt ∧ (wt_gf r360 108 4).toInt ≤ 500 := wt_R_gf ri363 2 rfl
            have bb378 := wt_bd (wt_gf r370 108 4)
            have g379 : 0 ≤ (wt_gf r370 108 4).toInt ∧ (wt_gf r370 108 4).toInt ≤ 500 := wt_R_gf ri373 2 rfl
            have bb380 := wt_bd (wt_gf r370 108 7)
            have g381 : 0 ≤ (wt_gf r370 108 7).toInt ∧ (wt_gf r370 108 7).toInt ≤ 60 := wt_R_gf ri373 4 rfl
            have tt382 : (wt_gf r370 108 7).toInt = (wt_gf r360 108 7).toInt := congrArg Int32.toInt (f372.1 108 7 (by (try dsimp only); omega))
            have bb383 := wt_bd (wt_gf r370 108 5)
            have g384 : 0 ≤ (wt_gf r370 108 5).toInt ∧ (wt_gf r370 108 5).toInt ≤ 3 := wt_R_gf ri373 3 rfl
            have tt385 : (wt_gf r370 108 5).toInt = (wt_gf r360 108 5).toInt := congrArg Int32.toInt (f372.1 108 5 (by (try dsimp only); omega))
            refine hKK271 _ ⟨(wt_fr.tr (wt_fr.tr (wt_fr.tr wt_fr.rf l274 (fun i k h => by (try dsimp only at h); rcases h with h | h | h | h | h; exact Or.inl (by omega); exact Or.inr (Or.inl (by omega)); exact Or.inr (Or.inr (Or.inl (by omega))); exact Or.inr (Or.inr (Or.inr (Or.inl (by omega)))); exact Or.inr (Or.inr (Or.inr (Or.inr ((by omega)))))) (fun i h => by (try dsimp only at h); rcases h with h | h | h | h | h | h | h; exact Or.inl (by omega); exact Or.inr (Or.inl (by omega)); exact Or.inr (Or.inr (Or.inl (by omega))); exact Or.inr (Or.inr (Or.inr (Or.inl (by omega)))); exact Or.inr (Or.inr (Or.inr (Or.inr (Or.inl (by omega))))); exact Or.inr (Or.inr (Or.inr (Or.inr (Or.inr (Or.inl (by omega)))))); exact Or.inr (Or.inr (Or.inr (Or.inr (Or.inr (Or.inr ((by omega))))))))) f362 (fun i k h => by (try dsimp only at h); rcases h with h | h | h | h | h; exact Or.inl (by omega); exact Or.inr (Or.inl (by omega)); exact Or.inr (Or.inr (Or.inl (by omega))); exact Or.inr (Or.inr (Or.inr (Or.inl (by omega)))); exact Or.inr (Or.inr (Or.inr (Or.inr ((by omega)))))) (fun i h => by (try dsimp only at h); rcases h with h | h | h | h | h | h | h; exact Or.inl (by omega); exact Or.inr (Or.inl (by omega)); exact Or.inr (Or.inr (Or.inl (by omega))); exact Or.inr (Or.inr (Or.inr (Or.inl (by omega)))); exact Or.inr (Or.inr (Or.inr (Or.inr (Or.inl (by omega))))); exact Or.inr (Or.inr (Or.inr (Or.inr (Or.inr (Or.inl (by omega)))))); exact Or.inr (Or.inr (Or.inr (Or.inr (Or.inr (Or.inr ((by omega))))))))) f372 (fun i k h => by (try dsimp only at h); exact Or.inl (by omega)) (fun i h => h.elim)), ri373, mi375⟩ ?_
            show (4 * (60 - (wt_gf r370 108 7).toInt) + 3 - (wt_gf r370 108 5).toInt).toNat < (4 * (60 - (wt_gf z272 108 7).toInt) + 3 - (wt_gf z272 108 5).toInt).toNat
            omega
        · skip
          have c386 := wt_nceq h281
          unfold wp_md_kase_B70
          obtain ⟨σ387, eσ387⟩ : ∃ z : wt_St, z = wt_sf z272 108 3 (wt_gf z272 108 6) := ⟨_, rfl⟩
          rw [← eσ387]
          have fσ387 := wt_fr_sf eσ387
          have vσ387 := wt_ceq (wt_v_sf eσ387)
          have bb388 := wt_bd (wt_gf z272 108 6)
          have mσ387 := wt_M_sf l276 eσ387
          have rσ387 := wt_RI_fno l275 eσ387 (Or.inr (by decide))
          have bb389 := wt_bd (wt_gf σ387 108 5)
          have g390 : 0 ≤ (wt_gf σ387 108 5).toInt ∧ (wt_gf σ387 108 5).toInt ≤ 3 := wt_R_gf rσ387 3 rfl
          have tt391 : (wt_gf σ387 108 5).toInt = (wt_gf z272 108 5).toInt := congrArg Int32.toInt (fσ387.1 108 5 (by (try dsimp only); omega))
          refine wt_T_if (fun h392 => ?_) (fun h392 => ?_)
          · skip
            have c393 := wt_ceq h392
            refine wt_T_bi (wq_md_takesCase n hn σ387 rσ387 mσ387) (fun r394 h395 => ?_)
            obtain ⟨f396, ri397, mi398⟩ := h395
            refine wt_T_it (fun s : Int32 × wt_St => wt_fr (fun i k => False) (fun i => i = 275) r394 s.2 ∧ 0 ≤ (s.1).toInt ∧ wt_RI s.2 ∧ wt_M12 s.2) (fun s : Int32 × wt_St => ((4 : Int32).toInt - s.1.toInt + 0).toNat) (fun KK399 z400 I401 hKK399 => ?_) _ _ ?_ ?_
            · skip
              obtain ⟨l402, l403, l404, l405⟩ := I401
              unfold wp_md_kase_B99
              have k406 : (4 : Int32).toInt = 4 := by decide
              have bb407 := wt_bd z400.1
              refine wt_T_if (fun h408 => ?_) (fun h408 => ?_)
              · skip
                have c409 := wt_cle h408
                obtain ⟨σ410, eσ410⟩ : ∃ z : wt_St, z = wt_sf z400.2 108 41 (0 : Int32) := ⟨_, rfl⟩
                rw [← eσ410]
                have fσ410 := wt_fr_sf eσ410
                have vσ410 := wt_ceq (wt_v_sf eσ410)
                have mσ410 := wt_M_sf l405 eσ410
                have rσ410 := wt_RI_fin l404 eσ410 9 rfl rfl (show 0 ≤ ((0 : Int32)).toInt by omega) (show ((0 : Int32)).toInt ≤ 3 by omega)
                refine wt_T_bi (wq_md_allPieces n hn σ410 rσ410) (fun r411 h412 => ?_)
                have e413 := h412
                have bb414 := wt_bd r411.1
                rw [e413]
                refine wt_T_some ?_
                have bb415 := wt_bd (wt_gf σ410 108 1)
                have g416 : 0 ≤ (wt_gf σ410 108 1).toInt ∧ (wt_gf σ410 108 1).toInt ≤ 500 := wt_R_gf rσ410 0 rfl
                have tt417 : (wt_gf σ410 108 1).toInt = (wt_gf z400.2 108 1).toInt := congrArg Int32.toInt (fσ410.1 108 1 (by (try dsimp only); omega))
                have bb418 := wt_bd (wt_gf z400.2 108 1)
                have g419 : 0 ≤ (wt_gf z400.2 108 1).toInt ∧ (wt_gf z400.2 108 1).toInt ≤ 500 := wt_R_gf l404 0 rfl
                have tt420 : (wt_gf z400.2 108 1).toInt = (wt_gf r394 108 1).toInt := congrArg Int32.toInt (l402.1 108 1 (fun z => z))
                have bb421 := wt_bd (wt_gf r394 108 1)
                have g422 : 0 ≤ (wt_gf r394 108 1).toInt ∧ (wt_gf r394 108 1).toInt ≤ 500 := wt_R_gf ri397 0 rfl
                have tt423 : (wt_gf r394 108 1).toInt = (wt_gf σ387 108 1).toInt := congrArg Int32.toInt (f396.1 108 1 (by (try dsimp only); omega))
                have bb424 := wt_bd (wt_gf σ387 108 1)
                have g425 : 0 ≤ (wt_gf σ387 108 1).toInt ∧ (wt_gf σ387 108 1).toInt ≤ 500 := wt_R_gf rσ387 0 rfl
                have tt426 : (wt_gf σ387 108 1).toInt = (wt_gf z272 108 1).toInt := congrArg Int32.toInt (fσ387.1 108 1 (by (try dsimp only); omega))
                have bb427 := wt_bd (wt_gf z272 108 1)
                have g428 : 0 ≤ (wt_gf z272 108 1).toInt ∧ (wt_gf z272 108 1).toInt ≤ 500 := wt_R_gf l275 0 rfl
                have tt429 : (wt_gf z272 108 1).toInt = (wt_gf r266 108 1).toInt := congrArg Int32.toInt (l274.1 108 1 (by (try dsimp only); omega))
                have bb430 := wt_bd (wt_gf r266 108 1)
                have g431 : 0 ≤ (wt_gf r266 108 1).toInt ∧ (wt_gf r266 108 1).toInt ≤ 500 := wt_R_gf ri269 0 rfl
                have tt432 : (wt_gf r266 108 1).toInt = (wt_gf r254 108 1).toInt := congrArg Int32.toInt (f268.1 108 1 (by (try dsimp only); omega))
                exact ⟨(wt_fr.tr (wt_fr.tr (wt_fr.tr (wt_fr.tr (wt_fr.tr (wt_fr.tr (wt_fr.tr (wt_fr.tr (wt_fr.tr wt_fr.rf fσ2 (fun i k h => by (try dsimp only at h); exact Or.inl (by omega)) (fun i h => h.elim)) f245 (fun i k h => by (try dsimp only at h); exact Or.inl (by omega)) (fun i h => h.elim)) f256 (fun i k h => by (try dsimp only at h); rcases h with h | h | h | h | h | h; exact Or.inr (Or.inl (by omega)); exact Or.inr (Or.inr (Or.inl (by omega))); exact Or.inr (Or.inr (Or.inr (Or.inl (by omega)))); exact Or.inr (Or.inr (Or.inr (Or.inr (Or.inl (by omega))))); exact Or.inr (Or.inr (Or.inr (Or.inr (Or.inr (Or.inl (by omega)))))); exact Or.inr (Or.inr (Or.inr (Or.inr (Or.inr (Or.inr (Or.inl (by omega)))))))) (fun i h => h.elim)) f268 (fun i k h => by (try dsimp only at h); exact Or.inr (Or.inr (Or.inr (Or.inr (Or.inr (Or.inr (Or.inr (Or.inl (by omega))))))))) (fun i h => by (try dsimp only at h); rcases h with h | h | h | h | h; exact Or.inl (by omega); exact Or.inr (Or.inl (by omega)); exact Or.inr (Or.inr (Or.inl (by omega))); exact Or.inr (Or.inr (Or.inr (Or.inl (by omega)))); exact Or.inr (Or.inr (Or.inr (Or.inr (Or.inl (by omega))))))) l274 (fun i k h => by (try dsimp only at h); rcases h with h | h | h | h | h; exact Or.inr (Or.inr (Or.inr (Or.inl (by omega)))); exact Or.inr (Or.inr (Or.inr (Or.inr (Or.inl (by omega))))); exact Or.inr (Or.inr (Or.inr (Or.inr (Or.inr (Or.inl (by omega)))))); exact Or.inr (Or.inr (Or.inr (Or.inr (Or.inr (Or.inr (Or.inl (by omega))))))); exact Or.inr (Or.inr (Or.inr (Or.inr (Or.inr (Or.inr (Or.inr (Or.inl (by omega))))))))) (fun i h => by (try dsimp only at h); rcases h with h | h | h | h | h | h | h; exact Or.inr (Or.inr (Or.inr (Or.inl (by omega)))); exact Or.inr (Or.inr (Or.inr (Or.inr (Or.inl (by omega))))); exact Or.inl (by omega); exact Or.inr (Or.inr (Or.inr (Or.inr (Or.inr (Or.inr (Or.inr (Or.inr (Or.inr (Or.inr (Or.inr (Or.inr (Or.inr (Or.inr (Or.inl (by omega))))))))))))))); exact Or.inr (Or.inl (by omega)); exact Or.inr (Or.inr (Or.inr (Or.inr (Or.inr (Or.inr (Or.inr (Or.inr (Or.inr (Or.inr (Or.inr (Or.inr (Or.inr (Or.inr (Or.inr ((by omega)))))))))))))))); exact Or.inr (Or.inr (Or.inl (by omega))))) fσ387 (fun i k h => by (try dsimp only at h); exact Or.inr (Or.inr (Or.inr (Or.inr (Or.inr (Or.inr (Or.inr (Or.inr (Or.inl (by omega)))))))))) (fun i h => h.elim)) f396 (fun i k h => by (try dsimp only at h); exact Or.inr (Or.inr (Or.inr (Or.inr (Or.inr (Or.inr (Or.inr (Or.inr (Or.inr (Or.inl (by omega))))))))))) (fun i h => by (try dsimp only at h); rcases h with h | h | h | h | h | h | h | h; exact Or.inr (Or.inr (Or.inr (Or.inr (Or.inr (Or.inl (by omega)))))); exact Or.inr (Or.inr (Or.inr (Or.inr (Or.inr (Or.inr (Or.inl (by omega))))))); exact Or.inr (Or.inr (Or.inr (Or.inr (Or.inr (Or.inr (Or.inr (Or.inl (by omega)))))))); exact Or.inr (Or.inr (Or.inr (Or.inr (Or.inr (Or.inr (Or.inr (Or.inr (Or.inl (by omega))))))))); exact Or.inr (Or.inr (Or.inr (Or.inr (Or.inr (Or.inr (Or.inr (Or.inr (Or.inr (Or.inl (by omega)))))))))); exact Or.inr (Or.inr (Or.inr (Or.inr (Or.inr (Or.inr (Or.inr (Or.inr (Or.inr (Or.inr (Or.inl (by omega))))))))))); exact Or.inr (Or.inr (Or.inr (Or.inr (Or.inr (Or.inr (Or.inr (Or.inr (Or.inr (Or.inr (Or.inr (Or.inl (by omega)))))))))))); exact Or.inr (Or.inr (Or.inr (Or.inr (Or.inr (Or.inr (Or.inr (Or.inr (Or.inr (Or.inr (Or.inr (Or.inr (Or.inl (by omega))))))))))))))) l402 (fun i k h => h.elim) (fun i h => by (try dsimp only at h); exact Or.inr (Or.inr (Or.inr (Or.inr (Or.inr (Or.inr (Or.inr (Or.inr (Or.inr (Or.inr (Or.inr (Or.inr (Or.inr (Or.inl (by omega)))))))))))))))) fσ410 (fun i k h => by (try dsimp only at h); exact Or.inr (Or.inr (Or.inr (Or.inr (Or.inr (Or.inr (Or.inr (Or.inr (Or.inr (Or.inr ((by omega)))))))))))) (fun i h => h.elim)), rσ410, mσ410, (show ((x1.toInt < 0 ∨ (wt_gf σ 108 1).toInt < x1.toInt → (wt_gf σ410 108 1).toInt = (wt_gf σ 108 1).toInt) ∧ (0 ≤ x1.toInt ∧ x1.toInt ≤ (wt_gf σ 108 1).toInt → (wt_gf σ410 108 1).toInt = 0)) from by omega)⟩
              · skip
                have c433 := wt_ncle h408
                refine wt_T_gd (wt_ix (by omega) (by omega)) ?_
                obtain ⟨σ434, eσ434⟩ : ∃ z : wt_St, z = wt_sa z400.2 275 (Int32.toNatClampNeg z400.1) (-1 : Int32) := ⟨_, rfl⟩
                rw [← eσ434]
                have fσ434 := wt_fr_sa eσ434
                have vσ434 := wt_ceq (wt_v_sa eσ434)
                have bb435 := wt_tn z400.1
                have mσ434 := wt_M_no l405 eσ434 (by first | decide | omega)
                have k436 := wt_lm1
                have rσ434 := wt_RI_in l404 eσ434 12 rfl (by decide) (by decide) (show -1 ≤ ((-1 : Int32)).toInt by omega) (show ((-1 : Int32)).toInt ≤ 7 by omega)
                refine hKK399 _ ⟨(wt_fr.tr (wt_fr.tr wt_fr.rf l402 (fun i k h => h.elim) (fun i h => by (try dsimp only at h); exact (by omega))) fσ434 (fun i k h => h.elim) (fun i h => by (try dsimp only at h); exact (by omega))), (wt_nn (B := (4 : Int32)) (by omega) (by omega)), rσ434, mσ434⟩ ?_
                show ((4 : Int32).toInt - (z400.1 + (1 : Int32)).toInt + 0).toNat < ((4 : Int32).toInt - z400.1.toInt + 0).toNat
                exact wt_mu (by omega) (by omega)
            · skip
              have k437 : (4 : Int32).toInt = 4 := by decide
              exact ⟨wt_fr.rf, (show 0 ≤ ((0 : Int32)).toInt by omega), ri397, mi398⟩
            · skip
              have k438 : (4 : Int32).toInt = 4 := by decide
              show ((4 : Int32).toInt - (0 : Int32).toInt + 0).toNat < n
              omega
          · skip
            have c439 := wt_nceq h392
            refine wt_T_some ?_
            have k440 : (10 : Int32).toInt = 10 := by decide
            obtain ⟨j441, j441a, j441b⟩ := wt_subI (wt_gf σ387 108 5) (10 : Int32)
            have bb442 := wt_bd (wt_gf σ387 108 1)
            have g443 : 0 ≤ (wt_gf σ387 108 1).toInt ∧ (wt_gf σ387 108 1).toInt ≤ 500 := wt_R_gf rσ387 0 rfl
            have tt444 : (wt_gf σ387 108 1).toInt = (wt_gf z272 108 1).toInt := congrArg Int32.toInt (fσ387.1 108 1 (by (try dsimp only); omega))
            have bb445 := wt_bd (wt_gf z272 108 1)
            have g446 : 0 ≤ (wt_gf z272 108 1).toInt ∧ (wt_gf z272 108 1).toInt ≤ 500 := wt_R_gf l275 0 rfl
            have tt447 : (wt_gf z272 108 1).toInt = (wt_gf r266 108 1).toInt := congrArg Int32.toInt (l274.1 108 1 (by (try dsimp only); omega))
            have bb448 := wt_bd (wt_gf r266 108 1)
            have g449 : 0 ≤ (wt_gf r266 108 1).toInt ∧ (wt_gf r266 108 1).toInt ≤ 500 := wt_R_gf ri269 0 rfl
            have tt450 : (wt_gf r266 108 1).toInt = (wt_gf r254 108 1).toInt := congrArg Int32.toInt (f268.1 108 1 (by (try dsimp only); omega))
            exact ⟨(wt_fr.tr (wt_fr.tr (wt_fr.tr (wt_fr.tr (wt_fr.tr (wt_fr.tr wt_fr.rf fσ2 (fun i k h => by (try dsimp only at h); exact Or.inl (by omega)) (fun i h => h.elim)) f245 (fun i k h => by (try dsimp only at h); exact Or.inl (by omega)) (fun i h => h.elim)) f256 (fun i k h => by (try dsimp only at h); rcases h with h | h | h | h | h | h; exact Or.inr (Or.inl (by omega)); exact Or.inr (Or.inr (Or.inl (by omega))); exact Or.inr (Or.inr (Or.inr (Or.inl (by omega)))); exact Or.inr (Or.inr (Or.inr (Or.inr (Or.inl (by omega))))); exact Or.inr (Or.inr (Or.inr (Or.inr (Or.inr (Or.inl (by omega)))))); exact Or.inr (Or.inr (Or.inr (Or.inr (Or.inr (Or.inr (Or.inl (by omega)))))))) (fun i h => h.elim)) f268 (fun i k h => by (try dsimp only at h); exact Or.inr (Or.inr (Or.inr (Or.inr (Or.inr (Or.inr (Or.inr (Or.inl (by omega))))))))) (fun i h => by (try dsimp only at h); rcases h with h | h | h | h | h; exact Or.inl (by omega); exact Or.inr (Or.inl (by omega)); exact Or.inr (Or.inr (Or.inl (by omega))); exact Or.inr (Or.inr (Or.inr (Or.inl (by omega)))); exact Or.inr (Or.inr (Or.inr (Or.inr (Or.inl (by omega))))))) l274 (fun i k h => by (try dsimp only at h); rcases h with h | h | h | h | h; exact Or.inr (Or.inr (Or.inr (Or.inl (by omega)))); exact Or.inr (Or.inr (Or.inr (Or.inr (Or.inl (by omega))))); exact Or.inr (Or.inr (Or.inr (Or.inr (Or.inr (Or.inl (by omega)))))); exact Or.inr (Or.inr (Or.inr (Or.inr (Or.inr (Or.inr (Or.inl (by omega))))))); exact Or.inr (Or.inr (Or.inr (Or.inr (Or.inr (Or.inr (Or.inr (Or.inl (by omega))))))))) (fun i h => by (try dsimp only at h); rcases h with h | h | h | h | h | h | h; exact Or.inr (Or.inr (Or.inr (Or.inl (by omega)))); exact Or.inr (Or.inr (Or.inr (Or.inr (Or.inl (by omega))))); exact Or.inl (by omega); exact Or.inr (Or.inr (Or.inr (Or.inr (Or.inr (Or.inr (Or.inr (Or.inr (Or.inr (Or.inr (Or.inr (Or.inr (Or.inr (Or.inr (Or.inl (by omega))))))))))))))); exact Or.inr (Or.inl (by omega)); exact Or.inr (Or.inr (Or.inr (Or.inr (Or.inr (Or.inr (Or.inr (Or.inr (Or.inr (Or.inr (Or.inr (Or.inr (Or.inr (Or.inr (Or.inr ((by omega)))))))))))))))); exact Or.inr (Or.inr (Or.inl (by omega))))) fσ387 (fun i k h => by (try dsimp only at h); exact Or.inr (Or.inr (Or.inr (Or.inr (Or.inr (Or.inr (Or.inr (Or.inr (Or.inl (by omega)))))))))) (fun i h => h.elim)), rσ387, mσ387, (show ((x1.toInt < 0 ∨ (wt_gf σ 108 1).toInt < x1.toInt → (wt_gf σ387 108 1).toInt = (wt_gf σ 108 1).toInt) ∧ (0 ≤ x1.toInt ∧ x1.toInt ≤ (wt_gf σ 108 1).toInt → (wt_gf σ387 108 1).toInt = 0)) from by omega)⟩
      · skip
        have bb451 := wt_bd (wt_gf r266 108 7)
        have g452 : 0 ≤ (wt_gf r266 108 7).toInt ∧ (wt_gf r266 108 7).toInt ≤ 60 := wt_R_gf ri269 4 rfl
        have tt453 : (wt_gf r266 108 7).toInt = (wt_gf r254 108 7).toInt := congrArg Int32.toInt (f268.1 108 7 (by (try dsimp only); omega))
        have bb454 := wt_bd (wt_gf r266 108 5)
        have g455 : 0 ≤ (wt_gf r266 108 5).toInt ∧ (wt_gf r266 108 5).toInt ≤ 3 := wt_R_gf ri269 3 rfl
        have tt456 : (wt_gf r266 108 5).toInt = (wt_gf r254 108 5).toInt := congrArg Int32.toInt (f268.1 108 5 (by (try dsimp only); omega))
        exact ⟨wt_fr.rf, ri269, mi270⟩
      · skip
        have bb457 := wt_bd (wt_gf r266 108 7)
        have g458 : 0 ≤ (wt_gf r266 108 7).toInt ∧ (wt_gf r266 108 7).toInt ≤ 60 := wt_R_gf ri269 4 rfl
        have tt459 : (wt_gf r266 108 7).toInt = (wt_gf r254 108 7).toInt := congrArg Int32.toInt (f268.1 108 7 (by (try dsimp only); omega))
        have bb460 := wt_bd (wt_gf r266 108 5)
        have g461 : 0 ≤ (wt_gf r266 108 5).toInt ∧ (wt_gf r266 108 5).toInt ≤ 3 := wt_R_gf ri269 3 rfl
        have tt462 : (wt_gf r266 108 5).toInt = (wt_gf r254 108 5).toInt := congrArg Int32.toInt (f268.1 108 5 (by (try dsimp only); omega))
        show (4 * (60 - (wt_gf r266 108 7).toInt) + 3 - (wt_gf r266 108 5).toInt).toNat < n
        omega
    · skip
      have c463 := wt_nceq h252
      refine wt_T_some ?_
      have bb464 := wt_bd (wt_gf r243.2 108 1)
      have g465 : 0 ≤ (wt_gf r243.2 108 1).toInt ∧ (wt_gf r243.2 108 1).toInt ≤ 500 := wt_R_gf ri246 0 rfl
      have tt466 : (wt_gf r243.2 108 1).toInt = (wt_gf σ2 108 1).toInt := congrArg Int32.toInt (f245.1 108 1 (by (try dsimp only); omega))
      exact ⟨(wt_fr.tr (wt_fr.tr wt_fr.rf fσ2 (fun i k h => by (try dsimp only at h); exact Or.inl (by omega)) (fun i h => h.elim)) f245 (fun i k h => by (try dsimp only at h); exact Or.inl (by omega)) (fun i h => h.elim)), ri246, mi248, (show ((x1.toInt < 0 ∨ (wt_gf σ 108 1).toInt < x1.toInt → (wt_gf r243.2 108 1).toInt = (wt_gf σ 108 1).toInt) ∧ (0 ≤ x1.toInt ∧ x1.toInt ≤ (wt_gf σ 108 1).toInt → (wt_gf r243.2 108 1).toInt = 0)) from by omega)⟩
set_option maxRecDepth 100000 in
set_option maxHeartbeats 4000000 in
theorem wq_md_lacks (n : Nat) (hn : 4294967297 < n) (x1 : Int32) (x2 : Int32) (σ : wt_St) (r0 : wt_RI σ) : wt_T (wp_md_lacks n x1 x2 σ) (fun q => wt_fr (fun i k => (i = 108 ∧ k = 0)) (fun i => i = 287) σ q.2 ∧ wt_RI q.2) := by
  have bb1 := wt_bd x1
  have bb2 := wt_bd x2
  unfold wp_md_lacks
  obtain ⟨σ3, eσ3⟩ : ∃ z : wt_St, z = wt_sf σ 108 0 (0 : Int32) := ⟨_, rfl⟩
  rw [← eσ3]
  have fσ3 := wt_fr_sf eσ3
  have vσ3 := wt_ceq (wt_v_sf eσ3)
  have k4 : (0 : Int32).toInt = 0 := by decide
  have rσ3 := wt_RI_fno r0 eσ3 (Or.inr (by decide))
  refine wt_T_bi (wq_md_isText n hn x1 σ3 rσ3) (fun r5 h6 => ?_)
  obtain ⟨e7, pp8⟩ := h6
  have bb9 := wt_bd r5.1
  rw [e7]
  have bb10 := wt_bd (wt_gf σ3 108 39)
  have g11 : 0 ≤ (wt_gf σ3 108 39).toInt ∧ (wt_gf σ3 108 39).toInt ≤ 8 := wt_R_gf rσ3 7 rfl
  have tt12 : (wt_gf σ3 108 39).toInt = (wt_gf σ 108 39).toInt := congrArg Int32.toInt (fσ3.1 108 39 (by (try dsimp only); omega))
  have bb13 := wt_bd (wt_gf σ 108 39)
  have g14 : 0 ≤ (wt_gf σ 108 39).toInt ∧ (wt_gf σ 108 39).toInt ≤ 8 := wt_R_gf r0 7 rfl
  refine wt_T_if (fun h15 => ?_) (fun h15 => ?_)
  · skip
    have c16 := wt_ceq h15
    unfold wp_md_lacks_B19
    have k17 : (1 : Int32).toInt = 1 := by decide
    refine wt_T_bi (wq_md_bad n hn (1 : Int32) (1 : Int32) σ3 rσ3 (by omega)) (fun r18 h19 => ?_)
    obtain ⟨f20, ri21, pp22⟩ := h19
    have bb23 := wt_bd r18.1
    have bb24 := wt_bd (wt_gf r18.2 108 0)
    have bb25 := wt_bd (wt_gf σ3 108 0)
    refine wt_T_if (fun h26 => ?_) (fun h26 => ?_)
    · skip
      have c27 := wt_ceq h26
      refine wt_T_bi (wq_md_isCopies n hn x2 r18.2 ri21) (fun r28 h29 => ?_)
      obtain ⟨e30, pp31⟩ := h29
      have bb32 := wt_bd r28.1
      rw [e30]
      refine wt_T_if (fun h33 => ?_) (fun h33 => ?_)
      · skip
        have c34 := wt_ceq h33
        unfold wp_md_lacks_B39
        have k35 : (2 : Int32).toInt = 2 := by decide
        refine wt_T_bi (wq_md_bad n hn (1 : Int32) (2 : Int32) r18.2 ri21 (by omega)) (fun r36 h37 => ?_)
        obtain ⟨f38, ri39, pp40⟩ := h37
        have bb41 := wt_bd r36.1
        have bb42 := wt_bd (wt_gf r36.2 108 0)
        refine wt_T_if (fun h43 => ?_) (fun h43 => ?_)
        · skip
          have c44 := wt_ceq h43
          refine wt_T_bi (wq_md_needsText n hn x1 r36.2 ri39 (by omega) (by omega)) (fun r45 h46 => ?_)
          obtain ⟨f47, ri48, pp49⟩ := h46
          refine wt_T_bi (wq_md_lacking n hn x2 r45 ri48) (fun r50 h51 => ?_)
          obtain ⟨e52, pp53⟩ := h51
          have bb54 := wt_bd r50.1
          rw [e52]
          refine wt_T_some ?_
          exact ⟨(wt_fr.tr (wt_fr.tr (wt_fr.tr (wt_fr.tr wt_fr.rf fσ3 (fun i k h => by (try dsimp only at h); exact (by omega)) (fun i h => h.elim)) f20 (fun i k h => by (try dsimp only at h); exact (by omega)) (fun i h => h.elim)) f38 (fun i k h => by (try dsimp only at h); exact (by omega)) (fun i h => h.elim)) f47 (fun i k h => h.elim) (fun i h => by (try dsimp only at h); exact (by omega))), ri48⟩
        · skip
          have c55 := wt_nceq h43
          refine wt_T_some ?_
          exact ⟨(wt_fr.tr (wt_fr.tr (wt_fr.tr wt_fr.rf fσ3 (fun i k h => by (try dsimp only at h); exact (by omega)) (fun i h => h.elim)) f20 (fun i k h => by (try dsimp only at h); exact (by omega)) (fun i h => h.elim)) f38 (fun i k h => by (try dsimp only at h); exact (by omega)) (fun i h => h.elim)), ri39⟩
      · skip
        have c56 := wt_nceq h33
        unfold wp_md_lacks_B39
        have k57 : (2 : Int32).toInt = 2 := by decide
        refine wt_T_bi (wq_md_bad n hn (0 : Int32) (2 : Int32) r18.2 ri21 (by omega)) (fun r58 h59 => ?_)
        obtain ⟨f60, ri61, pp62⟩ := h59
        have bb63 := wt_bd r58.1
        have bb64 := wt_bd (wt_gf r58.2 108 0)
        refine wt_T_if (fun h65 => ?_) (fun h65 => ?_)
        · skip
          have c66 := wt_ceq h65
          refine wt_T_bi (wq_md_needsText n hn x1 r58.2 ri61 (by omega) (by omega)) (fun r67 h68 => ?_)
          obtain ⟨f69, ri70, pp71⟩ := h68
          refine wt_T_bi (wq_md_lacking n hn x2 r67 ri70) (fun r72 h73 => ?_)
          obtain ⟨e74, pp75⟩ := h73
          have bb76 := wt_bd r72.1
          rw [e74]
          refine wt_T_some ?_
          exact ⟨(wt_fr.tr (wt_fr.tr (wt_fr.tr (wt_fr.tr wt_fr.rf fσ3 (fun i k h => by (try dsimp only at h); exact (by omega)) (fun i h => h.elim)) f20 (fun i k h => by (try dsimp only at h); exact (by omega)) (fun i h => h.elim)) f60 (fun i k h => by (try dsimp only at h); exact (by omega)) (fun i h => h.elim)) f69 (fun i k h => h.elim) (fun i h => by (try dsimp only at h); exact (by omega))), ri70⟩
        · skip
          have c77 := wt_nceq h65
          refine wt_T_some ?_
          exact ⟨(wt_fr.tr (wt_fr.tr (wt_fr.tr wt_fr.rf fσ3 (fun i k h => by (try dsimp only at h); exact (by omega)) (fun i h => h.elim)) f20 (fun i k h => by (try dsimp only at h); exact (by omega)) (fun i h => h.elim)) f60 (fun i k h => by (try dsimp only at h); exact (by omega)) (fun i h => h.elim)), ri61⟩
    · skip
      have c78 := wt_nceq h26
      refine wt_T_some ?_
      exact ⟨(wt_fr.tr (wt_fr.tr wt_fr.rf fσ3 (fun i k h => by (try dsimp only at h); exact (by omega)) (fun i h => h.elim)) f20 (fun i k h => by (try dsimp only at h); exact (by omega)) (fun i h => h.elim)), ri21⟩
  · skip
    have c79 := wt_nceq h15
    unfold wp_md_lacks_B19
    have k80 : (1 : Int32).toInt = 1 := by decide
    refine wt_T_bi (wq_md_bad n hn (0 : Int32) (1 : Int32) σ3 rσ3 (by omega)) (fun r81 h82 => ?_)
    obtain ⟨f83, ri84, pp85⟩ := h82
    have bb86 := wt_bd r81.1
    have bb87 := wt_bd (wt_gf r81.2 108 0)
    have bb88 := wt_bd (wt_gf σ3 108 0)
    refine wt_T_if (fun h89 => ?_) (fun h89 => ?_)
    · skip
      have c90 := wt_ceq h89
      refine wt_T_bi (wq_md_isCopies n hn x2 r81.2 ri84) (fun r91 h92 => ?_)
      obtain ⟨e93, pp94⟩ := h92
      have bb95 := wt_bd r91.1
      rw [e93]
      refine wt_T_if (fun h96 => ?_) (fun h96 => ?_)
      · skip
        have c97 := wt_ceq h96
        unfold wp_md_lacks_B39
        have k98 : (2 : Int32).toInt = 2 := by decide
        refine wt_T_bi (wq_md_bad n hn (1 : Int32) (2 : Int32) r81.2 ri84 (by omega)) (fun r99 h100 => ?_)
        obtain ⟨f101, ri102, pp103⟩ := h100
        have bb104 := wt_bd r99.1
        have bb105 := wt_bd (wt_gf r99.2 108 0)
        refine wt_T_if (fun h106 => ?_) (fun h106 => ?_)
        · skip
          have c107 := wt_ceq h106
          refine wt_T_bi (wq_md_needsText n hn x1 r99.2 ri102 (by omega) (by omega)) (fun r108 h109 => ?_)
          obtain ⟨f110, ri111, pp112⟩ := h109
          refine wt_T_bi (wq_md_lacking n hn x2 r108 ri111) (fun r113 h114 => ?_)
          obtain ⟨e115, pp116⟩ := h114
          have bb117 := wt_bd r113.1
          rw [e115]
          refine wt_T_some ?_
          exact ⟨(wt_fr.tr (wt_fr.tr (wt_fr.tr (wt_fr.tr wt_fr.rf fσ3 (fun i k h => by (try dsimp only at h); exact (by omega)) (fun i h => h.elim)) f83 (fun i k h => by (try dsimp only at h); exact (by omega)) (fun i h => h.elim)) f101 (fun i k h => by (try dsimp only at h); exact (by omega)) (fun i h => h.elim)) f110 (fun i k h => h.elim) (fun i h => by (try dsimp only at h); exact (by omega))), ri111⟩
        · skip
          have c118 := wt_nceq h106
          refine wt_T_some ?_
          exact ⟨(wt_fr.tr (wt_fr.tr (wt_fr.tr wt_fr.rf fσ3 (fun i k h => by (try dsimp only at h); exact (by omega)) (fun i h => h.elim)) f83 (fun i k h => by (try dsimp only at h); exact (by omega)) (fun i h => h.elim)) f101 (fun i k h => by (try dsimp only at h); exact (by omega)) (fun i h => h.elim)), ri102⟩
      · skip
        have c119 := wt_nceq h96
        unfold wp_md_lacks_B39
        have k120 : (2 : Int32).toInt = 2 := by decide
        refine wt_T_bi (wq_md_bad n hn (0 : Int32) (2 : Int32) r81.2 ri84 (by omega)) (fun r121 h122 => ?_)
        obtain ⟨f123, ri124, pp125⟩ := h122
        have bb126 := wt_bd r121.1
        have bb127 := wt_bd (wt_gf r121.2 108 0)
        refine wt_T_if (fun h128 => ?_) (fun h128 => ?_)
        · skip
          have c129 := wt_ceq h128
          refine wt_T_bi (wq_md_needsText n hn x1 r121.2 ri124 (by omega) (by omega)) (fun r130 h131 => ?_)
          obtain ⟨f132, ri133, pp134⟩ := h131
          refine wt_T_bi (wq_md_lacking n hn x2 r130 ri133) (fun r135 h136 => ?_)
          obtain ⟨e137, pp138⟩ := h136
          have bb139 := wt_bd r135.1
          rw [e137]
          refine wt_T_some ?_
          exact ⟨(wt_fr.tr (wt_fr.tr (wt_fr.tr (wt_fr.tr wt_fr.rf fσ3 (fun i k h => by (try dsimp only at h); exact (by omega)) (fun i h => h.elim)) f83 (fun i k h => by (try dsimp only at h); exact (by omega)) (fun i h => h.elim)) f123 (fun i k h => by (try dsimp only at h); exact (by omega)) (fun i h => h.elim)) f132 (fun i k h => h.elim) (fun i h => by (try dsimp only at h); exact (by omega))), ri133⟩
        · skip
          have c140 := wt_nceq h128
          refine wt_T_some ?_
          exact ⟨(wt_fr.tr (wt_fr.tr (wt_fr.tr wt_fr.rf fσ3 (fun i k h => by (try dsimp only at h); exact (by omega)) (fun i h => h.elim)) f83 (fun i k h => by (try dsimp only at h); exact (by omega)) (fun i h => h.elim)) f123 (fun i k h => by (try dsimp only at h); exact (by omega)) (fun i h => h.elim)), ri124⟩
    · skip
      have c141 := wt_nceq h89
      refine wt_T_some ?_
      exact ⟨(wt_fr.tr (wt_fr.tr wt_fr.rf fσ3 (fun i k h => by (try dsimp only at h); exact (by omega)) (fun i h => h.elim)) f83 (fun i k h => by (try dsimp only at h); exact (by omega)) (fun i h => h.elim)), ri84⟩
set_option maxRecDepth 100000 in
set_option maxHeartbeats 4000000 in
theorem wq_md_laysRests (n : Nat) (hn : 4294967297 < n) (x1 : Int32) (σ : wt_St) (r0 : wt_RI σ) (p0 : 0 ≤ x1.toInt) (p1 : x1.toInt ≤ 7) : wt_T (wp_md_laysRests n x1 σ) (fun q => wt_fr (fun i k => False) (fun i => (292 ≤ i ∧ i < 304) ∨ (305 ≤ i ∧ i < 317)) σ q ∧ wt_RI q) := by
  have bb1 := wt_bd x1
  unfold wp_md_laysRests
  have k0 : (0 : Int32).toInt = 0 := by decide
  refine wt_T_gd (wt_ix (by omega) (by omega)) ?_
  have bb9 := wt_tn x1
  have bb10 := wt_bd (wt_ga σ 253 (Int32.toNatClampNeg x1))
  have g11 : 0 ≤ (wt_ga σ 253 (Int32.toNatClampNeg x1)).toInt ∧ (wt_ga σ 253 (Int32.toNatClampNeg x1)).toInt ≤ 12 := wt_R_ga r0 9 rfl 253 (by decide) (by decide) (Int32.toNatClampNeg x1)
  have k12 : (1 : Int32).toInt = 1 := by decide
  obtain ⟨j13, j13a, j13b⟩ := wt_subI (wt_ga σ 253 (Int32.toNatClampNeg x1)) (1 : Int32)
  refine wt_T_it (fun s : Int32 × wt_St => wt_fr (fun i k => False) (fun i => (292 ≤ i ∧ i < 304) ∨ (305 ≤ i ∧ i < 317)) σ s.2 ∧ s.1.toInt < (wt_ga σ 253 (Int32.toNatClampNeg x1)).toInt ∧ -1 ≤ s.1.toInt ∧ wt_RI s.2) (fun s : Int32 × wt_St => (s.1.toInt + 1).toNat) (fun KK2 z3 I4 hKK2 => ?_) _ _ ?_ ?_
  · skip
    obtain ⟨l5, l6, l7, l8⟩ := I4
    unfold wp_md_laysRests_B9
    have bb14 := wt_bd z3.1
    refine wt_T_if (fun h15 => ?_) (fun h15 => ?_)
    · skip
      have c16 := wt_clt h15
      refine wt_T_some ?_
      exact ⟨(wt_fr.tr wt_fr.rf l5 (fun i k h => h.elim) (fun i h => by (try dsimp only at h); rcases h with h | h; exact Or.inl (by omega); exact Or.inr ((by omega)))), l8⟩
    · skip
      have c17 := wt_ncl h15
      refine wt_T_it (fun s : Int32 × wt_St => wt_fr (fun i k => False) (fun i => (292 ≤ i ∧ i < 304) ∨ (305 ≤ i ∧ i < 317)) z3.2 s.2 ∧ 0 ≤ (s.1).toInt ∧ wt_RI s.2) (fun s : Int32 × wt_St => ((wt_gf s.2 108 28).toInt - s.1.toInt + 0).toNat) (fun KK18 z19 I20 hKK18 => ?_) _ _ ?_ ?_
      · skip
        obtain ⟨l21, l22, l23⟩ := I20
        unfold wp_md_laysRests_B15
        have bb24 := wt_bd (wt_gf z19.2 108 28)
        have g25 : 0 ≤ (wt_gf z19.2 108 28).toInt ∧ (wt_gf z19.2 108 28).toInt ≤ 60 := wt_R_gf l23 6 rfl
        have tt26 : (wt_gf z19.2 108 28).toInt = (wt_gf z3.2 108 28).toInt := congrArg Int32.toInt (l21.1 108 28 (fun z => z))
        have bb27 := wt_bd (wt_gf z3.2 108 28)
        have g28 : 0 ≤ (wt_gf z3.2 108 28).toInt ∧ (wt_gf z3.2 108 28).toInt ≤ 60 := wt_R_gf l8 6 rfl
        have tt29 : (wt_gf z3.2 108 28).toInt = (wt_gf σ 108 28).toInt := congrArg Int32.toInt (l5.1 108 28 (fun z => z))
        have bb30 := wt_bd (wt_gf σ 108 28)
        have g31 : 0 ≤ (wt_gf σ 108 28).toInt ∧ (wt_gf σ 108 28).toInt ≤ 60 := wt_R_gf r0 6 rfl
        have bb32 := wt_bd z19.1
        refine wt_T_if (fun h33 => ?_) (fun h33 => ?_)
        · skip
          have c34 := wt_cle h33
          have k35 := wt_lm1
          have k36 := wt_lm1
          refine hKK2 _ ⟨(wt_fr.tr (wt_fr.tr wt_fr.rf l5 (fun i k h => h.elim) (fun i h => by (try dsimp only at h); rcases h with h | h; exact Or.inl (by omega); exact Or.inr ((by omega)))) l21 (fun i k h => h.elim) (fun i h => by (try dsimp only at h); rcases h with h | h; exact Or.inl (by omega); exact Or.inr ((by omega)))), (show (z3.1 + (-1 : Int32)).toInt < (wt_ga σ 253 (Int32.toNatClampNeg x1)).toInt by rw [wt_d1 (by omega)]; omega), (show -1 ≤ (z3.1 + (-1 : Int32)).toInt by rw [wt_d1 (by omega)]; omega), l23⟩ ?_
          show ((z3.1 + (-1 : Int32)).toInt + 1).toNat < (z3.1.toInt + 1).toNat
          exact wt_md1 (by omega)
        · skip
          have c37 := wt_ncle h33
          refine wt_T_gd (wt_ix (by omega) (by omega)) ?_
          refine wt_T_gd (wt_ix (by omega) (by omega)) ?_
          refine wt_T_gd (wt_ix (by omega) (by omega)) ?_
          refine wt_T_gd (wt_ix (by omega) (by omega)) ?_
          obtain ⟨σ38, eσ38⟩ : ∃ z : wt_St, z = wt_sa z19.2 (292 + (Int32.toNatClampNeg z3.1)) (Int32.toNatClampNeg z19.1) (-1 : Int32) := ⟨_, rfl⟩
          rw [← eσ38]
          have fσ38 := wt_fr_sa eσ38
          have vσ38 := wt_ceq (wt_v_sa eσ38)
          have bb39 := wt_tn z19.1
          have bb40 := wt_tn z3.1
          have rσ38 := wt_RI_no l23 eσ38 292 304 (by decide) (by omega) (by omega)
          obtain ⟨σ41, eσ41⟩ : ∃ z : wt_St, z = wt_sa σ38 (305 + (Int32.toNatClampNeg z3.1)) (Int32.toNatClampNeg z19.1) (0 : Int32) := ⟨_, rfl⟩
          rw [← eσ41]
          have fσ41 := wt_fr_sa eσ41
          have vσ41 := wt_ceq (wt_v_sa eσ41)
          have rσ41 := wt_RI_no rσ38 eσ41 305 317 (by decide) (by omega) (by omega)
          refine wt_T_bi (wq_md_isOf n hn z19.1 x1 z3.1 σ41 rσ41 (by omega) (by omega) (by omega) (by omega) (by omega) (by omega)) (fun r42 h43 => ?_)
          have e44 := h43
          have bb45 := wt_bd r42.1
          rw [e44]
          refine wt_T_if (fun h46 => ?_) (fun h46 => ?_)
          · skip
            have c47 := wt_ceq h46
            unfold wp_md_laysRests_B279
            have bb48 := wt_bd (wt_gf σ41 108 28)
            have g49 : 0 ≤ (wt_gf σ41 108 28).toInt ∧ (wt_gf σ41 108 28).toInt ≤ 60 := wt_R_gf rσ41 6 rfl
            have tt50 : (wt_gf σ41 108 28).toInt = (wt_gf σ38 108 28).toInt := congrArg Int32.toInt (fσ41.1 108 28 (fun z => z))
            have bb51 := wt_bd (wt_gf σ38 108 28)
            have g52 : 0 ≤ (wt_gf σ38 108 28).toInt ∧ (wt_gf σ38 108 28).toInt ≤ 60 := wt_R_gf rσ38 6 rfl
            have tt53 : (wt_gf σ38 108 28).toInt = (wt_gf z19.2 108 28).toInt := congrArg Int32.toInt (fσ38.1 108 28 (fun z => z))
            refine hKK18 _ ⟨(wt_fr.tr (wt_fr.tr (wt_fr.tr wt_fr.rf l21 (fun i k h => h.elim) (fun i h => by (try dsimp only at h); rcases h with h | h; exact Or.inl (by omega); exact Or.inr ((by omega)))) fσ38 (fun i k h => h.elim) (fun i h => by (try dsimp only at h); exact Or.inl (by omega))) fσ41 (fun i k h => h.elim) (fun i h => by (try dsimp only at h); exact Or.inr ((by omega)))), (wt_nn (B := wt_gf z19.2 108 28) (by omega) (by omega)), rσ41⟩ ?_
            show ((wt_gf σ41 108 28).toInt - (z19.1 + (1 : Int32)).toInt + 0).toNat < ((wt_gf z19.2 108 28).toInt - z19.1.toInt + 0).toNat
            exact wt_mu (by omega) (by omega)
          · skip
            have c54 := wt_nceq h46
            refine wt_T_gd (wt_ix (by omega) (by omega)) ?_
            have bb55 := wt_bd (wt_ga σ41 253 (Int32.toNatClampNeg x1))
            have g56 : 0 ≤ (wt_ga σ41 253 (Int32.toNatClampNeg x1)).toInt ∧ (wt_ga σ41 253 (Int32.toNatClampNeg x1)).toInt ≤ 12 := wt_R_ga rσ41 9 rfl 253 (by decide) (by decide) (Int32.toNatClampNeg x1)
            have tt57 : (wt_ga σ41 253 (Int32.toNatClampNeg x1)).toInt = (wt_ga σ38 253 (Int32.toNatClampNeg x1)).toInt := congrArg Int32.toInt (fσ41.2 253 (by (try dsimp only); omega) (Int32.toNatClampNeg x1))
            have bb58 := wt_bd (wt_ga σ38 253 (Int32.toNatClampNeg x1))
            have g59 : 0 ≤ (wt_ga σ38 253 (Int32.toNatClampNeg x1)).toInt ∧ (wt_ga σ38 253 (Int32.toNatClampNeg x1)).toInt ≤ 12 := wt_R_ga rσ38 9 rfl 253 (by decide) (by decide) (Int32.toNatClampNeg x1)
            have tt60 : (wt_ga σ38 253 (Int32.toNatClampNeg x1)).toInt = (wt_ga z19.2 253 (Int32.toNatClampNeg x1)).toInt := congrArg Int32.toInt (fσ38.2 253 (by (try dsimp only); omega) (Int32.toNatClampNeg x1))
            have bb61 := wt_bd (wt_ga z19.2 253 (Int32.toNatClampNeg x1))
            have g62 : 0 ≤ (wt_ga z19.2 253 (Int32.toNatClampNeg x1)).toInt ∧ (wt_ga z19.2 253 (Int32.toNatClampNeg x1)).toInt ≤ 12 := wt_R_ga l23 9 rfl 253 (by decide) (by decide) (Int32.toNatClampNeg x1)
            have tt63 : (wt_ga z19.2 253 (Int32.toNatClampNeg x1)).toInt = (wt_ga z3.2 253 (Int32.toNatClampNeg x1)).toInt := congrArg Int32.toInt (l21.2 253 (by (try dsimp only); omega) (Int32.toNatClampNeg x1))
            have bb64 := wt_bd (wt_ga z3.2 253 (Int32.toNatClampNeg x1))
            have g65 : 0 ≤ (wt_ga z3.2 253 (Int32.toNatClampNeg x1)).toInt ∧ (wt_ga z3.2 253 (Int32.toNatClampNeg x1)).toInt ≤ 12 := wt_R_ga l8 9 rfl 253 (by decide) (by decide) (Int32.toNatClampNeg x1)
            have tt66 : (wt_ga z3.2 253 (Int32.toNatClampNeg x1)).toInt = (wt_ga σ 253 (Int32.toNatClampNeg x1)).toInt := congrArg Int32.toInt (l5.2 253 (by (try dsimp only); omega) (Int32.toNatClampNeg x1))
            obtain ⟨j67, j67a, j67b⟩ := wt_subI (wt_ga σ41 253 (Int32.toNatClampNeg x1)) (1 : Int32)
            refine wt_T_if (fun h68 => ?_) (fun h68 => ?_)
            · skip
              have c69 := wt_ceq h68
              refine wt_T_gd (wt_ix (by omega) (by omega)) ?_
              refine wt_T_bi (wq_md_priceOf n hn z19.1 σ41 rσ41 (by omega) (by omega)) (fun r70 h71 => ?_)
              have e72 := h71
              have bb73 := wt_bd r70.1
              rw [e72]
              refine wt_T_gd (wt_ix (by omega) (by omega)) ?_
              refine wt_T_gd (wt_ix (by omega) (by omega)) ?_
              refine wt_T_gd (wt_ix (by omega) (by omega)) ?_
              obtain ⟨σ74, eσ74⟩ : ∃ z : wt_St, z = wt_sa σ41 (292 + (Int32.toNatClampNeg z3.1)) (Int32.toNatClampNeg z19.1) r70.1 := ⟨_, rfl⟩
              rw [← eσ74]
              have fσ74 := wt_fr_sa eσ74
              have vσ74 := wt_ceq (wt_v_sa eσ74)
              have rσ74 := wt_RI_no rσ41 eσ74 292 304 (by decide) (by omega) (by omega)
              obtain ⟨σ75, eσ75⟩ : ∃ z : wt_St, z = wt_sa σ74 (305 + (Int32.toNatClampNeg z3.1)) (Int32.toNatClampNeg z19.1) (1 : Int32) := ⟨_, rfl⟩
              rw [← eσ75]
              have fσ75 := wt_fr_sa eσ75
              have vσ75 := wt_ceq (wt_v_sa eσ75)
              have rσ75 := wt_RI_no rσ74 eσ75 305 317 (by decide) (by omega) (by omega)
              unfold wp_md_laysRests_B279
              have bb76 := wt_bd (wt_gf σ75 108 28)
              have g77 : 0 ≤ (wt_gf σ75 108 28).toInt ∧ (wt_gf σ75 108 28).toInt ≤ 60 := wt_R_gf rσ75 6 rfl
              have tt78 : (wt_gf σ75 108 28).toInt = (wt_gf σ74 108 28).toInt := congrArg Int32.toInt (fσ75.1 108 28 (fun z => z))
              have bb79 := wt_bd (wt_gf σ74 108 28)
              have g80 : 0 ≤ (wt_gf σ74 108 28).toInt ∧ (wt_gf σ74 108 28).toInt ≤ 60 := wt_R_gf rσ74 6 rfl
              have tt81 : (wt_gf σ74 108 28).toInt = (wt_gf σ41 108 28).toInt := congrArg Int32.toInt (fσ74.1 108 28 (fun z => z))
              have bb82 := wt_bd (wt_gf σ41 108 28)
              have g83 : 0 ≤ (wt_gf σ41 108 28).toInt ∧ (wt_gf σ41 108 28).toInt ≤ 60 := wt_R_gf rσ41 6 rfl
              have tt84 : (wt_gf σ41 108 28).toInt = (wt_gf σ38 108 28).toInt := congrArg Int32.toInt (fσ41.1 108 28 (fun z => z))
              have bb85 := wt_bd (wt_gf σ38 108 28)
              have g86 : 0 ≤ (wt_gf σ38 108 28).toInt ∧ (wt_gf σ38 108 28).toInt ≤ 60 := wt_R_gf rσ38 6 rfl
              have tt87 : (wt_gf σ38 108 28).toInt = (wt_gf z19.2 108 28).toInt := congrArg Int32.toInt (fσ38.1 108 28 (fun z => z))
              refine hKK18 _ ⟨(wt_fr.tr (wt_fr.tr (wt_fr.tr (wt_fr.tr (wt_fr.tr wt_fr.rf l21 (fun i k h => h.elim) (fun i h => by (try dsimp only at h); rcases h with h | h; exact Or.inl (by omega); exact Or.inr ((by omega)))) fσ38 (fun i k h => h.elim) (fun i h => by (try dsimp only at h); exact Or.inl (by omega))) fσ41 (fun i k h => h.elim) (fun i h => by (try dsimp only at h); exact Or.inr ((by omega)))) fσ74 (fun i k h => h.elim) (fun i h => by (try dsimp only at h); exact Or.inl (by omega))) fσ75 (fun i k h => h.elim) (fun i h => by (try dsimp only at h); exact Or.inr ((by omega)))), (wt_nn (B := wt_gf z19.2 108 28) (by omega) (by omega)), rσ75⟩ ?_
              show ((wt_gf σ75 108 28).toInt - (z19.1 + (1 : Int32)).toInt + 0).toNat < ((wt_gf z19.2 108 28).toInt - z19.1.toInt + 0).toNat
              exact wt_mu (by omega) (by omega)
            · skip
              have c88 := wt_nceq h68
              refine wt_T_it (fun s : Int32 × Int32 × wt_St => wt_fr (fun i k => False) (fun i => (305 ≤ i ∧ i < 317)) σ41 s.2.2 ∧ 0 ≤ (s.2.1).toInt ∧ wt_RI s.2.2) (fun s : Int32 × Int32 × wt_St => ((wt_gf s.2.2 108 28).toInt - s.2.1.toInt + 0).toNat) (fun KK89 z90 I91 hKK89 => ?_) _ _ ?_ ?_
              · skip
                obtain ⟨l92, l93, l94⟩ := I91
                unfold wp_md_laysRests_B97
                have bb95 := wt_bd (wt_gf z90.2.2 108 28)
                have g96 : 0 ≤ (wt_gf z90.2.2 108 28).toInt ∧ (wt_gf z90.2.2 108 28).toInt ≤ 60 := wt_R_gf l94 6 rfl
                have tt97 : (wt_gf z90.2.2 108 28).toInt = (wt_gf σ41 108 28).toInt := congrArg Int32.toInt (l92.1 108 28 (fun z => z))
                have bb98 := wt_bd (wt_gf σ41 108 28)
                have g99 : 0 ≤ (wt_gf σ41 108 28).toInt ∧ (wt_gf σ41 108 28).toInt ≤ 60 := wt_R_gf rσ41 6 rfl
                have tt100 : (wt_gf σ41 108 28).toInt = (wt_gf σ38 108 28).toInt := congrArg Int32.toInt (fσ41.1 108 28 (fun z => z))
                have bb101 := wt_bd (wt_gf σ38 108 28)
                have g102 : 0 ≤ (wt_gf σ38 108 28).toInt ∧ (wt_gf σ38 108 28).toInt ≤ 60 := wt_R_gf rσ38 6 rfl
                have tt103 : (wt_gf σ38 108 28).toInt = (wt_gf z19.2 108 28).toInt := congrArg Int32.toInt (fσ38.1 108 28 (fun z => z))
                have bb104 := wt_bd z90.2.1
                refine wt_T_if (fun h105 => ?_) (fun h105 => ?_)
                · skip
                  have c106 := wt_cle h105
                  refine wt_T_gd (wt_ix (by omega) (by omega)) ?_
                  have bb107 := wt_bd z90.1
                  refine wt_T_if (fun h108 => ?_) (fun h108 => ?_)
                  · skip
                    have c109 := wt_ceq h108
                    rw [wt_lm1] at c109
                    unfold wp_md_laysRests_B278
                    refine wt_T_gd (wt_ix (by omega) (by omega)) ?_
                    obtain ⟨σ110, eσ110⟩ : ∃ z : wt_St, z = wt_sa z90.2.2 (292 + (Int32.toNatClampNeg z3.1)) (Int32.toNatClampNeg z19.1) (-1 : Int32) := ⟨_, rfl⟩
                    rw [← eσ110]
                    have fσ110 := wt_fr_sa eσ110
                    have vσ110 := wt_ceq (wt_v_sa eσ110)
                    have rσ110 := wt_RI_no l94 eσ110 292 304 (by decide) (by omega) (by omega)
                    unfold wp_md_laysRests_B279
                    have bb111 := wt_bd (wt_gf σ110 108 28)
                    have g112 : 0 ≤ (wt_gf σ110 108 28).toInt ∧ (wt_gf σ110 108 28).toInt ≤ 60 := wt_R_gf rσ110 6 rfl
                    have tt113 : (wt_gf σ110 108 28).toInt = (wt_gf z90.2.2 108 28).toInt := congrArg Int32.toInt (fσ110.1 108 28 (fun z => z))
                    refine hKK18 _ ⟨(wt_fr.tr (wt_fr.tr (wt_fr.tr (wt_fr.tr (wt_fr.tr wt_fr.rf l21 (fun i k h => h.elim) (fun i h => by (try dsimp only at h); rcases h with h | h; exact Or.inl (by omega); exact Or.inr ((by omega)))) fσ38 (fun i k h => h.elim) (fun i h => by (try dsimp only at h); exact Or.inl (by omega))) fσ41 (fun i k h => h.elim) (fun i h => by (try dsimp only at h); exact Or.inr ((by omega)))) l92 (fun i k h => h.elim) (fun i h => by (try dsimp only at h); exact Or.inr ((by omega)))) fσ110 (fun i k h => h.elim) (fun i h => by (try dsimp only at h); exact Or.inl (by omega))), (wt_nn (B := wt_gf z19.2 108 28) (by omega) (by omega)), rσ110⟩ ?_
                    show ((wt_gf σ110 108 28).toInt - (z19.1 + (1 : Int32)).toInt + 0).toNat < ((wt_gf z19.2 108 28).toInt - z19.1.toInt + 0).toNat
                    exact wt_mu (by omega) (by omega)
                  · skip
                    have c114 := wt_nceq h108
                    rw [wt_lm1] at c114
                    refine wt_T_bi (wq_md_priceOf n hn z19.1 z90.2.2 l94 (by omega) (by omega)) (fun r115 h116 => ?_)
                    have e117 := h116
                    have bb118 := wt_bd r115.1
                    rw [e117]
                    unfold wp_md_laysRests_B278
                    refine wt_T_gd (wt_ix (by omega) (by omega)) ?_
                    obtain ⟨σ119, eσ119⟩ : ∃ z : wt_St, z = wt_sa z90.2.2 (292 + (Int32.toNatClampNeg z3.1)) (Int32.toNatClampNeg z19.1) (z90.1 + r115.1) := ⟨_, rfl⟩
                    rw [← eσ119]
                    have fσ119 := wt_fr_sa eσ119
                    have vσ119 := wt_ceq (wt_v_sa eσ119)
                    obtain ⟨j120, j120a, j120b⟩ := wt_addI z90.1 r115.1
                    have rσ119 := wt_RI_no l94 eσ119 292 304 (by decide) (by omega) (by omega)
                    unfold wp_md_laysRests_B279
                    have bb121 := wt_bd (wt_gf σ119 108 28)
                    have g122 : 0 ≤ (wt_gf σ119 108 28).toInt ∧ (wt_gf σ119 108 28).toInt ≤ 60 := wt_R_gf rσ119 6 rfl
                    have tt123 : (wt_gf σ119 108 28).toInt = (wt_gf z90.2.2 108 28).toInt := congrArg Int32.toInt (fσ119.1 108 28 (fun z => z))
                    refine hKK18 _ ⟨(wt_fr.tr (wt_fr.tr (wt_fr.tr (wt_fr.tr (wt_fr.tr wt_fr.rf l21 (fun i k h => h.elim) (fun i h => by (try dsimp only at h); rcases h with h | h; exact Or.inl (by omega); exact Or.inr ((by omega)))) fσ38 (fun i k h => h.elim) (fun i h => by (try dsimp only at h); exact Or.inl (by omega))) fσ41 (fun i k h => h.elim) (fun i h => by (try dsimp only at h); exact Or.inr ((by omega)))) l92 (fun i k h => h.elim) (fun i h => by (try dsimp only at h); exact Or.inr ((by omega)))) fσ119 (fun i k h => h.elim) (fun i h => by (try dsimp only at h); exact Or.inl (by omega))), (wt_nn (B := wt_gf z19.2 108 28) (by omega) (by omega)), rσ119⟩ ?_
                    show ((wt_gf σ119 108 28).toInt - (z19.1 + (1 : Int32)).toInt + 0).toNat < ((wt_gf z19.2 108 28).toInt - z19.1.toInt + 0).toNat
                    exact wt_mu (by omega) (by omega)
                · skip
                  have c124 := wt_ncle h105
                  have j125 := wt_i1 (c := z3.1) (by omega)
                  refine wt_T_bi (wq_md_isOf n hn z90.2.1 x1 (z3.1 + (1 : Int32)) z90.2.2 l94 (by omega) (by omega) (by omega) (by omega) (by omega) (by omega)) (fun r126 h127 => ?_)
                  have e128 := h127
                  have bb129 := wt_bd r126.1
                  rw [e128]
                  refine wt_T_if (fun h130 => ?_) (fun h130 => ?_)
                  · skip
                    have c131 := wt_ceq h130
                    unfold wp_md_laysRests_B247
                    have bb132 := wt_bd z90.1
                    refine hKK89 _ ⟨(wt_fr.tr wt_fr.rf l92 (fun i k h => h.elim) (fun i h => by (try dsimp only at h); exact (by omega))), (wt_nn (B := wt_gf z90.2.2 108 28) (by omega) (by omega)), l94⟩ ?_
                    show ((wt_gf z90.2.2 108 28).toInt - (z90.2.1 + (1 : Int32)).toInt + 0).toNat < ((wt_gf z90.2.2 108 28).toInt - z90.2.1.toInt + 0).toNat
                    exact wt_mu (by omega) (by omega)
                  · skip
                    have c133 := wt_nceq h130
                    refine wt_T_bi (wq_md_mayFollow n hn z19.1 z90.2.1 z90.2.2 l94 (by omega) (by omega) (by omega) (by omega)) (fun r134 h135 => ?_)
                    have e136 := h135
                    have bb137 := wt_bd r134.1
                    rw [e136]
                    refine wt_T_if (fun h138 => ?_) (fun h138 => ?_)
                    · skip
                      have c139 := wt_ceq h138
                      unfold wp_md_laysRests_B247
                      have bb140 := wt_bd z90.1
                      refine hKK89 _ ⟨(wt_fr.tr wt_fr.rf l92 (fun i k h => h.elim) (fun i h => by (try dsimp only at h); exact (by omega))), (wt_nn (B := wt_gf z90.2.2 108 28) (by omega) (by omega)), l94⟩ ?_
                      show ((wt_gf z90.2.2 108 28).toInt - (z90.2.1 + (1 : Int32)).toInt + 0).toNat < ((wt_gf z90.2.2 108 28).toInt - z90.2.1.toInt + 0).toNat
                      exact wt_mu (by omega) (by omega)
                    · skip
                      have c141 := wt_nceq h138
                      refine wt_T_gd (wt_ix (by omega) (by omega)) ?_
                      refine wt_T_gd (wt_ix (by omega) (by omega)) ?_
                      have bb142 := wt_tn (z3.1 + (1 : Int32))
                      have bb143 := wt_tn z90.2.1
                      have bb144 := wt_bd (wt_ga z90.2.2 (292 + (Int32.toNatClampNeg (z3.1 + (1 : Int32)))) (Int32.toNatClampNeg z90.2.1))
                      have tt145 : (wt_ga z90.2.2 (292 + (Int32.toNatClampNeg (z3.1 + (1 : Int32)))) (Int32.toNatClampNeg z90.2.1)).toInt = (wt_ga σ41 (292 + (Int32.toNatClampNeg (z3.1 + (1 : Int32)))) (Int32.toNatClampNeg z90.2.1)).toInt := congrArg Int32.toInt (l92.2 (292 + (Int32.toNatClampNeg (z3.1 + (1 : Int32)))) (by (try dsimp only); omega) (Int32.toNatClampNeg z90.2.1))
                      have bb146 := wt_bd (wt_ga σ41 (292 + (Int32.toNatClampNeg (z3.1 + (1 : Int32)))) (Int32.toNatClampNeg z90.2.1))
                      have tt147 : (wt_ga σ41 (292 + (Int32.toNatClampNeg (z3.1 + (1 : Int32)))) (Int32.toNatClampNeg z90.2.1)).toInt = (wt_ga σ38 (292 + (Int32.toNatClampNeg (z3.1 + (1 : Int32)))) (Int32.toNatClampNeg z90.2.1)).toInt := congrArg Int32.toInt (fσ41.2 (292 + (Int32.toNatClampNeg (z3.1 + (1 : Int32)))) (by (try dsimp only); omega) (Int32.toNatClampNeg z90.2.1))
                      have bb148 := wt_bd (wt_ga σ38 (292 + (Int32.toNatClampNeg (z3.1 + (1 : Int32)))) (Int32.toNatClampNeg z90.2.1))
                      refine wt_T_if (fun h149 => ?_) (fun h149 => ?_)
                      · skip
                        have c150 := wt_ceq h149
                        rw [wt_lm1] at c150
                        unfold wp_md_laysRests_B247
                        have bb151 := wt_bd z90.1
                        refine hKK89 _ ⟨(wt_fr.tr wt_fr.rf l92 (fun i k h => h.elim) (fun i h => by (try dsimp only at h); exact (by omega))), (wt_nn (B := wt_gf z90.2.2 108 28) (by omega) (by omega)), l94⟩ ?_
                        show ((wt_gf z90.2.2 108 28).toInt - (z90.2.1 + (1 : Int32)).toInt + 0).toNat < ((wt_gf z90.2.2 108 28).toInt - z90.2.1.toInt + 0).toNat
                        exact wt_mu (by omega) (by omega)
                      · skip
                        have c152 := wt_nceq h149
                        rw [wt_lm1] at c152
                        have bb153 := wt_bd z90.1
                        refine wt_T_if (fun h154 => ?_) (fun h154 => ?_)
                        · skip
                          have c155 := wt_ceq h154
                          rw [wt_lm1] at c155
                          unfold wp_md_laysRests_B169
                          refine wt_T_gd (wt_ix (by omega) (by omega)) ?_
                          refine wt_T_gd (wt_ix (by omega) (by omega)) ?_
                          unfold wp_md_laysRests_B185
                          refine wt_T_gd (wt_ix (by omega) (by omega)) ?_
                          refine wt_T_gd (wt_ix (by omega) (by omega)) ?_
                          refine wt_T_gd (wt_ix (by omega) (by omega)) ?_
                          refine wt_T_gd (wt_ix (by omega) (by omega)) ?_
                          refine wt_T_gd (wt_ix (by omega) (by omega)) ?_
                          have bb156 := wt_bd (wt_ga z90.2.2 (305 + (Int32.toNatClampNeg z3.1)) (Int32.toNatClampNeg z19.1))
                          have bb157 := wt_bd (wt_ga z90.2.2 (305 + (Int32.toNatClampNeg (z3.1 + (1 : Int32)))) (Int32.toNatClampNeg z90.2.1))
                          obtain ⟨j158, j158a, j158b⟩ := wt_addI (wt_ga z90.2.2 (305 + (Int32.toNatClampNeg z3.1)) (Int32.toNatClampNeg z19.1)) (wt_ga z90.2.2 (305 + (Int32.toNatClampNeg (z3.1 + (1 : Int32)))) (Int32.toNatClampNeg z90.2.1))
                          have k159 : (1000000 : Int32).toInt = 1000000 := by decide
                          refine wt_T_if (fun h160 => ?_) (fun h160 => ?_)
                          · skip
                            have c161 := wt_cle h160
                            refine wt_T_gd (wt_ix (by omega) (by omega)) ?_
                            refine wt_T_gd (wt_ix (by omega) (by omega)) ?_
                            refine wt_T_gd (wt_ix (by omega) (by omega)) ?_
                            refine wt_T_gd (wt_ix (by omega) (by omega)) ?_
                            unfold wp_md_laysRests_B246
                            refine wt_T_gd (wt_ix (by omega) (by omega)) ?_
                            obtain ⟨σ162, eσ162⟩ : ∃ z : wt_St, z = wt_sa z90.2.2 (305 + (Int32.toNatClampNeg z3.1)) (Int32.toNatClampNeg z19.1) ((wt_ga z90.2.2 (305 + (Int32.toNatClampNeg z3.1)) (Int32.toNatClampNeg z19.1)) + (wt_ga z90.2.2 (305 + (Int32.toNatClampNeg (z3.1 + (1 : Int32)))) (Int32.toNatClampNeg z90.2.1))) := ⟨_, rfl⟩
                            rw [← eσ162]
                            have fσ162 := wt_fr_sa eσ162
                            have vσ162 := wt_ceq (wt_v_sa eσ162)
                            have rσ162 := wt_RI_no l94 eσ162 305 317 (by decide) (by omega) (by omega)
                            unfold wp_md_laysRests_B247
                            have bb163 := wt_bd (wt_gf σ162 108 28)
                            have g164 : 0 ≤ (wt_gf σ162 108 28).toInt ∧ (wt_gf σ162 108 28).toInt ≤ 60 := wt_R_gf rσ162 6 rfl
                            have tt165 : (wt_gf σ162 108 28).toInt = (wt_gf z90.2.2 108 28).toInt := congrArg Int32.toInt (fσ162.1 108 28 (fun z => z))
                            refine hKK89 _ ⟨(wt_fr.tr (wt_fr.tr wt_fr.rf l92 (fun i k h => h.elim) (fun i h => by (try dsimp only at h); exact (by omega))) fσ162 (fun i k h => h.elim) (fun i h => by (try dsimp only at h); exact (by omega))), (wt_nn (B := wt_gf z90.2.2 108 28) (by omega) (by omega)), rσ162⟩ ?_
                            show ((wt_gf σ162 108 28).toInt - (z90.2.1 + (1 : Int32)).toInt + 0).toNat < ((wt_gf z90.2.2 108 28).toInt - z90.2.1.toInt + 0).toNat
                            exact wt_mu (by omega) (by omega)
                          · skip
                            have c166 := wt_ncle h160
                            unfold wp_md_laysRests_B246
                            refine wt_T_gd (wt_ix (by omega) (by omega)) ?_
                            obtain ⟨σ167, eσ167⟩ : ∃ z : wt_St, z = wt_sa z90.2.2 (305 + (Int32.toNatClampNeg z3.1)) (Int32.toNatClampNeg z19.1) (1000000 : Int32) := ⟨_, rfl⟩
                            rw [← eσ167]
                            have fσ167 := wt_fr_sa eσ167
                            have vσ167 := wt_ceq (wt_v_sa eσ167)
                            have rσ167 := wt_RI_no l94 eσ167 305 317 (by decide) (by omega) (by omega)
                            unfold wp_md_laysRests_B247
                            have bb168 := wt_bd (wt_gf σ167 108 28)
                            have g169 : 0 ≤ (wt_gf σ167 108 28).toInt ∧ (wt_gf σ167 108 28).toInt ≤ 60 := wt_R_gf rσ167 6 rfl
                            have tt170 : (wt_gf σ167 108 28).toInt = (wt_gf z90.2.2 108 28).toInt := congrArg Int32.toInt (fσ167.1 108 28 (fun z => z))
                            refine hKK89 _ ⟨(wt_fr.tr (wt_fr.tr wt_fr.rf l92 (fun i k h => h.elim) (fun i h => by (try dsimp only at h); exact (by omega))) fσ167 (fun i k h => h.elim) (fun i h => by (try dsimp only at h); exact (by omega))), (wt_nn (B := wt_gf z90.2.2 108 28) (by omega) (by omega)), rσ167⟩ ?_
                            show ((wt_gf σ167 108 28).toInt - (z90.2.1 + (1 : Int32)).toInt + 0).toNat < ((wt_gf z90.2.2 108 28).toInt - z90.2.1.toInt + 0).toNat
                            exact wt_mu (by omega) (by omega)
                        · skip
                          have c171 := wt_nceq h154
                          rw [wt_lm1] at c171
                          refine wt_T_gd (wt_ix (by omega) (by omega)) ?_
                          refine wt_T_gd (wt_ix (by omega) (by omega)) ?_
                          refine wt_T_if (fun h172 => ?_) (fun h172 => ?_)
                          · skip
                            have c173 := wt_cle h172
                            unfold wp_md_laysRests_B185
                            refine wt_T_gd (wt_ix (by omega) (by omega)) ?_
                            refine wt_T_gd (wt_ix (by omega) (by omega)) ?_
                            refine wt_T_gd (wt_ix (by omega) (by omega)) ?_
                            refine wt_T_gd (wt_ix (by omega) (by omega)) ?_
                            refine wt_T_gd (wt_ix (by omega) (by omega)) ?_
                            have bb174 := wt_bd (wt_ga z90.2.2 (305 + (Int32.toNatClampNeg z3.1)) (Int32.toNatClampNeg z19.1))
                            have bb175 := wt_bd (wt_ga z90.2.2 (305 + (Int32.toNatClampNeg (z3.1 + (1 : Int32)))) (Int32.toNatClampNeg z90.2.1))
                            obtain ⟨j176, j176a, j176b⟩ := wt_addI (wt_ga z90.2.2 (305 + (Int32.toNatClampNeg z3.1)) (Int32.toNatClampNeg z19.1)) (wt_ga z90.2.2 (305 + (Int32.toNatClampNeg (z3.1 + (1 : Int32)))) (Int32.toNatClampNeg z90.2.1))
                            have k177 : (1000000 : Int32).toInt = 1000000 := by decide
                            refine wt_T_if (fun h178 => ?_) (fun h178 => ?_)
                            · skip
                              have c179 := wt_cle h178
                              refine wt_T_gd (wt_ix (by omega) (by omega)) ?_
                              refine wt_T_gd (wt_ix (by omega) (by omega)) ?_
                              refine wt_T_gd (wt_ix (by omega) (by omega)) ?_
                              refine wt_T_gd (wt_ix (by omega) (by omega)) ?_
                              unfold wp_md_laysRests_B246
                              refine wt_T_gd (wt_ix (by omega) (by omega)) ?_
                              obtain ⟨σ180, eσ180⟩ : ∃ z : wt_St, z = wt_sa z90.2.2 (305 + (Int32.toNatClampNeg z3.1)) (Int32.toNatClampNeg z19.1) ((wt_ga z90.2.2 (305 + (Int32.toNatClampNeg z3.1)) (Int32.toNatClampNeg z19.1)) + (wt_ga z90.2.2 (305 + (Int32.toNatClampNeg (z3.1 + (1 : Int32)))) (Int32.toNatClampNeg z90.2.1))) := ⟨_, rfl⟩
                              rw [← eσ180]
                              have fσ180 := wt_fr_sa eσ180
                              have vσ180 := wt_ceq (wt_v_sa eσ180)
                              have rσ180 := wt_RI_no l94 eσ180 305 317 (by decide) (by omega) (by omega)
                              unfold wp_md_laysRests_B247
                              have bb181 := wt_bd (wt_gf σ180 108 28)
                              have g182 : 0 ≤ (wt_gf σ180 108 28).toInt ∧ (wt_gf σ180 108 28).toInt ≤ 60 := wt_R_gf rσ180 6 rfl
                              have tt183 : (wt_gf σ180 108 28).toInt = (wt_gf z90.2.2 108 28).toInt := congrArg Int32.toInt (fσ180.1 108 28 (fun z => z))
                              refine hKK89 _ ⟨(wt_fr.tr (wt_fr.tr wt_fr.rf l92 (fun i k h => h.elim) (fun i h => by (try dsimp only at h); exact (by omega))) fσ180 (fun i k h => h.elim) (fun i h => by (try dsimp only at h); exact (by omega))), (wt_nn (B := wt_gf z90.2.2 108 28) (by omega) (by omega)), rσ180⟩ ?_
                              show ((wt_gf σ180 108 28).toInt - (z90.2.1 + (1 : Int32)).toInt + 0).toNat < ((wt_gf z90.2.2 108 28).toInt - z90.2.1.toInt + 0).toNat
                              exact wt_mu (by omega) (by omega)
                            · skip
                              have c184 := wt_ncle h178
                              unfold wp_md_laysRests_B246
                              refine wt_T_gd (wt_ix (by omega) (by omega)) ?_
                              obtain ⟨σ185, eσ185⟩ : ∃ z : wt_St, z = wt_sa z90.2.2 (305 + (Int32.toNatClampNeg z3.1)) (Int32.toNatClampNeg z19.1) (1000000 : Int32) := ⟨_, rfl⟩
                              rw [← eσ185]
                              have fσ185 := wt_fr_sa eσ185
                              have vσ185 := wt_ceq (wt_v_sa eσ185)
                              have rσ185 := wt_RI_no l94 eσ185 305 317 (by decide) (by omega) (by omega)
                              unfold wp_md_laysRests_B247
                              have bb186 := wt_bd (wt_gf σ185 108 28)
                              have g187 : 0 ≤ (wt_gf σ185 108 28).toInt ∧ (wt_gf σ185 108 28).toInt ≤ 60 := wt_R_gf rσ185 6 rfl
                              have tt188 : (wt_gf σ185 108 28).toInt = (wt_gf z90.2.2 108 28).toInt := congrArg Int32.toInt (fσ185.1 108 28 (fun z => z))
                              refine hKK89 _ ⟨(wt_fr.tr (wt_fr.tr wt_fr.rf l92 (fun i k h => h.elim) (fun i h => by (try dsimp only at h); exact (by omega))) fσ185 (fun i k h => h.elim) (fun i h => by (try dsimp only at h); exact (by omega))), (wt_nn (B := wt_gf z90.2.2 108 28) (by omega) (by omega)), rσ185⟩ ?_
                              show ((wt_gf σ185 108 28).toInt - (z90.2.1 + (1 : Int32)).toInt + 0).toNat < ((wt_gf z90.2.2 108 28).toInt - z90.2.1.toInt + 0).toNat
                              exact wt_mu (by omega) (by omega)
                          · skip
                            have c189 := wt_ncle h172
                            unfold wp_md_laysRests_B169
                            refine wt_T_gd (wt_ix (by omega) (by omega)) ?_
                            refine wt_T_gd (wt_ix (by omega) (by omega)) ?_
                            unfold wp_md_laysRests_B185
                            refine wt_T_gd (wt_ix (by omega) (by omega)) ?_
                            refine wt_T_gd (wt_ix (by omega) (by omega)) ?_
                            refine wt_T_gd (wt_ix (by omega) (by omega)) ?_
                            refine wt_T_gd (wt_ix (by omega) (by omega)) ?_
                            refine wt_T_gd (wt_ix (by omega) (by omega)) ?_
                            have bb190 := wt_bd (wt_ga z90.2.2 (305 + (Int32.toNatClampNeg z3.1)) (Int32.toNatClampNeg z19.1))
                            have bb191 := wt_bd (wt_ga z90.2.2 (305 + (Int32.toNatClampNeg (z3.1 + (1 : Int32)))) (Int32.toNatClampNeg z90.2.1))
                            obtain ⟨j192, j192a, j192b⟩ := wt_addI (wt_ga z90.2.2 (305 + (Int32.toNatClampNeg z3.1)) (Int32.toNatClampNeg z19.1)) (wt_ga z90.2.2 (305 + (Int32.toNatClampNeg (z3.1 + (1 : Int32)))) (Int32.toNatClampNeg z90.2.1))
                            have k193 : (1000000 : Int32).toInt = 1000000 := by decide
                            refine wt_T_if (fun h194 => ?_) (fun h194 => ?_)
                            · skip
                              have c195 := wt_cle h194
                              refine wt_T_gd (wt_ix (by omega) (by omega)) ?_
                              refine wt_T_gd (wt_ix (by omega) (by omega)) ?_
                              refine wt_T_gd (wt_ix (by omega) (by omega)) ?_
                              refine wt_T_gd (wt_ix (by omega) (by omega)) ?_
                              unfold wp_md_laysRests_B246
                              refine wt_T_gd (wt_ix (by omega) (by omega)) ?_
                              obtain ⟨σ196, eσ196⟩ : ∃ z : wt_St, z = wt_sa z90.2.2 (305 + (Int32.toNatClampNeg z3.1)) (Int32.toNatClampNeg z19.1) ((wt_ga z90.2.2 (305 + (Int32.toNatClampNeg z3.1)) (Int32.toNatClampNeg z19.1)) + (wt_ga z90.2.2 (305 + (Int32.toNatClampNeg (z3.1 + (1 : Int32)))) (Int32.toNatClampNeg z90.2.1))) := ⟨_, rfl⟩
                              rw [← eσ196]
                              have fσ196 := wt_fr_sa eσ196
                              have vσ196 := wt_ceq (wt_v_sa eσ196)
                              have rσ196 := wt_RI_no l94 eσ196 305 317 (by decide) (by omega) (by omega)
                              unfold wp_md_laysRests_B247
                              have bb197 := wt_bd (wt_gf σ196 108 28)
                              have g198 : 0 ≤ (wt_gf σ196 108 28).toInt ∧ (wt_gf σ196 108 28).toInt ≤ 60 := wt_R_gf rσ196 6 rfl
                              have tt199 : (wt_gf σ196 108 28).toInt = (wt_gf z90.2.2 108 28).toInt := congrArg Int32.toInt (fσ196.1 108 28 (fun z => z))
                              refine hKK89 _ ⟨(wt_fr.tr (wt_fr.tr wt_fr.rf l92 (fun i k h => h.elim) (fun i h => by (try dsimp only at h); exact (by omega))) fσ196 (fun i k h => h.elim) (fun i h => by (try dsimp only at h); exact (by omega))), (wt_nn (B := wt_gf z90.2.2 108 28) (by omega) (by omega)), rσ196⟩ ?_
                              show ((wt_gf σ196 108 28).toInt - (z90.2.1 + (1 : Int32)).toInt + 0).toNat < ((wt_gf z90.2.2 108 28).toInt - z90.2.1.toInt + 0).toNat
                              exact wt_mu (by omega) (by omega)
                            · skip
                              have c200 := wt_ncle h194
                              unfold wp_md_laysRests_B246
                              refine wt_T_gd (wt_ix (by omega) (by omega)) ?_
                              obtain ⟨σ201, eσ201⟩ : ∃ z : wt_St, z = wt_sa z90.2.2 (305 + (Int32.toNatClampNeg z3.1)) (Int32.toNatClampNeg z19.1) (1000000 : Int32) := ⟨_, rfl⟩
                              rw [← eσ201]
                              have fσ201 := wt_fr_sa eσ201
                              have vσ201 := wt_ceq (wt_v_sa eσ201)
                              have rσ201 := wt_RI_no l94 eσ201 305 317 (by decide) (by omega) (by omega)
                              unfold wp_md_laysRests_B247
                              have bb202 := wt_bd (wt_gf σ201 108 28)
                              have g203 : 0 ≤ (wt_gf σ201 108 28).toInt ∧ (wt_gf σ201 108 28).toInt ≤ 60 := wt_R_gf rσ201 6 rfl
                              have tt204 : (wt_gf σ201 108 28).toInt = (wt_gf z90.2.2 108 28).toInt := congrArg Int32.toInt (fσ201.1 108 28 (fun z => z))
                              refine hKK89 _ ⟨(wt_fr.tr (wt_fr.tr wt_fr.rf l92 (fun i k h => h.elim) (fun i h => by (try dsimp only at h); exact (by omega))) fσ201 (fun i k h => h.elim) (fun i h => by (try dsimp only at h); exact (by omega))), (wt_nn (B := wt_gf z90.2.2 108 28) (by omega) (by omega)), rσ201⟩ ?_
                              show ((wt_gf σ201 108 28).toInt - (z90.2.1 + (1 : Int32)).toInt + 0).toNat < ((wt_gf z90.2.2 108 28).toInt - z90.2.1.toInt + 0).toNat
                              exact wt_mu (by omega) (by omega)
              · skip
                have bb205 := wt_bd (wt_gf σ41 108 28)
                have g206 : 0 ≤ (wt_gf σ41 108 28).toInt ∧ (wt_gf σ41 108 28).toInt ≤ 60 := wt_R_gf rσ41 6 rfl
                have tt207 : (wt_gf σ41 108 28).toInt = (wt_gf σ38 108 28).toInt := congrArg Int32.toInt (fσ41.1 108 28 (fun z => z))
                have bb208 := wt_bd (wt_gf σ38 108 28)
                have g209 : 0 ≤ (wt_gf σ38 108 28).toInt ∧ (wt_gf σ38 108 28).toInt ≤ 60 := wt_R_gf rσ38 6 rfl
                have tt210 : (wt_gf σ38 108 28).toInt = (wt_gf z19.2 108 28).toInt := congrArg Int32.toInt (fσ38.1 108 28 (fun z => z))
                exact ⟨wt_fr.rf, (show 0 ≤ ((0 : Int32)).toInt by omega), rσ41⟩
              · skip
                have bb211 := wt_bd (wt_gf σ41 108 28)
                have g212 : 0 ≤ (wt_gf σ41 108 28).toInt ∧ (wt_gf σ41 108 28).toInt ≤ 60 := wt_R_gf rσ41 6 rfl
                have tt213 : (wt_gf σ41 108 28).toInt = (wt_gf σ38 108 28).toInt := congrArg Int32.toInt (fσ41.1 108 28 (fun z => z))
                have bb214 := wt_bd (wt_gf σ38 108 28)
                have g215 : 0 ≤ (wt_gf σ38 108 28).toInt ∧ (wt_gf σ38 108 28).toInt ≤ 60 := wt_R_gf rσ38 6 rfl
                have tt216 : (wt_gf σ38 108 28).toInt = (wt_gf z19.2 108 28).toInt := congrArg Int32.toInt (fσ38.1 108 28 (fun z => z))
                show ((wt_gf σ41 108 28).toInt - (0 : Int32).toInt + 0).toNat < n
                omega
      · skip
        have bb217 := wt_bd (wt_gf z3.2 108 28)
        have g218 : 0 ≤ (wt_gf z3.2 108 28).toInt ∧ (wt_gf z3.2 108 28).toInt ≤ 60 := wt_R_gf l8 6 rfl
        have tt219 : (wt_gf z3.2 108 28).toInt = (wt_gf σ 108 28).toInt := congrArg Int32.toInt (l5.1 108 28 (fun z => z))
        have bb220 := wt_bd (wt_gf σ 108 28)
        have g221 : 0 ≤ (wt_gf σ 108 28).toInt ∧ (wt_gf σ 108 28).toInt ≤ 60 := wt_R_gf r0 6 rfl
        exact ⟨wt_fr.rf, (show 0 ≤ ((0 : Int32)).toInt by omega), l8⟩
      · skip
        have bb222 := wt_bd (wt_gf z3.2 108 28)
        have g223 : 0 ≤ (wt_gf z3.2 108 28).toInt ∧ (wt_gf z3.2 108 28).toInt ≤ 60 := wt_R_gf l8 6 rfl
        have tt224 : (wt_gf z3.2 108 28).toInt = (wt_gf σ 108 28).toInt := congrArg Int32.toInt (l5.1 108 28 (fun z => z))
        have bb225 := wt_bd (wt_gf σ 108 28)
        have g226 : 0 ≤ (wt_gf σ 108 28).toInt ∧ (wt_gf σ 108 28).toInt ≤ 60 := wt_R_gf r0 6 rfl
        show ((wt_gf z3.2 108 28).toInt - (0 : Int32).toInt + 0).toNat < n
        omega
  · skip
    exact ⟨wt_fr.rf, (show ((wt_ga σ 253 (Int32.toNatClampNeg x1)) - (1 : Int32)).toInt < (wt_ga σ 253 (Int32.toNatClampNeg x1)).toInt by omega), (show -1 ≤ ((wt_ga σ 253 (Int32.toNatClampNeg x1)) - (1 : Int32)).toInt by omega), r0⟩
  · skip
    show (((wt_ga σ 253 (Int32.toNatClampNeg x1)) - (1 : Int32)).toInt + 1).toNat < n
    omega
set_option maxRecDepth 100000 in
set_option maxHeartbeats 4000000 in
theorem wq_md_least (n : Nat) (hn : 4294967297 < n) (x1 : Int32) (x2 : Int32) (x3 : Int32) (σ : wt_St) (r0 : wt_RI σ) : wt_T (wp_md_least n x1 x2 x3 σ) (fun q => wt_fr (fun i k => (i = 108 ∧ k = 0)) (fun i => (292 ≤ i ∧ i < 304) ∨ (305 ≤ i ∧ i < 317) ∨ i = 317) σ q.2 ∧ wt_RI q.2) := by
  have bb1 := wt_bd x1
  have bb2 := wt_bd x2
  have bb3 := wt_bd x3
  unfold wp_md_least
  obtain ⟨σ4, eσ4⟩ : ∃ z : wt_St, z = wt_sf σ 108 0 (0 : Int32) := ⟨_, rfl⟩
  rw [← eσ4]
  have fσ4 := wt_fr_sf eσ4
  have vσ4 := wt_ceq (wt_v_sf eσ4)
  have k5 : (0 : Int32).toInt = 0 := by decide
  have rσ4 := wt_RI_fno r0 eσ4 (Or.inr (by decide))
  refine wt_T_bi (wq_md_isText n hn x1 σ4 rσ4) (fun r6 h7 => ?_)
  obtain ⟨e8, pp9⟩ := h7
  have bb10 := wt_bd r6.1
  rw [e8]
  have bb11 := wt_bd (wt_gf σ4 108 39)
  have g12 : 0 ≤ (wt_gf σ4 108 39).toInt ∧ (wt_gf σ4 108 39).toInt ≤ 8 := wt_R_gf rσ4 7 rfl
  have tt13 : (wt_gf σ4 108 39).toInt = (wt_gf σ 108 39).toInt := congrArg Int32.toInt (fσ4.1 108 39 (by (try dsimp only); omega))
  have bb14 := wt_bd (wt_gf σ 108 39)
  have g15 : 0 ≤ (wt_gf σ 108 39).toInt ∧ (wt_gf σ 108 39).toInt ≤ 8 := wt_R_gf r0 7 rfl
  refine wt_T_if (fun h16 => ?_) (fun h16 => ?_)
  · skip
    have c17 := wt_ceq h16
    unfold wp_md_least_B19
    have k18 : (1 : Int32).toInt = 1 := by decide
    refine wt_T_bi (wq_md_bad n hn (1 : Int32) (1 : Int32) σ4 rσ4 (by omega)) (fun r19 h20 => ?_)
    obtain ⟨f21, ri22, pp23⟩ := h20
    have bb24 := wt_bd r19.1
    have bb25 := wt_bd (wt_gf r19.2 108 0)
    have bb26 := wt_bd (wt_gf σ4 108 0)
    refine wt_T_if (fun h27 => ?_) (fun h27 => ?_)
    · skip
      have c28 := wt_ceq h27
      refine wt_T_bi (wq_md_in n hn x3 (0 : Int32) (1 : Int32) r19.2 ri22) (fun r29 h30 => ?_)
      obtain ⟨e31, pp32⟩ := h30
      have bb33 := wt_bd r29.1
      rw [e31]
      refine wt_T_if (fun h34 => ?_) (fun h34 => ?_)
      · skip
        have c35 := wt_ceq h34
        unfold wp_md_least_B41
        have k36 : (2 : Int32).toInt = 2 := by decide
        refine wt_T_bi (wq_md_bad n hn (1 : Int32) (2 : Int32) r19.2 ri22 (by omega)) (fun r37 h38 => ?_)
        obtain ⟨f39, ri40, pp41⟩ := h38
        have bb42 := wt_bd r37.1
        have bb43 := wt_bd (wt_gf r37.2 108 0)
        refine wt_T_if (fun h44 => ?_) (fun h44 => ?_)
        · skip
          have c45 := wt_ceq h44
          refine wt_T_bi (wq_md_laysRests n hn x1 r37.2 ri40 (by omega) (by omega)) (fun r46 h47 => ?_)
          obtain ⟨f48, ri49⟩ := h47
          refine wt_T_it (fun s : Int32 × Int32 × Int32 × wt_St => wt_fr (fun i k => False) (fun i => i = 317) r46 s.2.2.2 ∧ 0 ≤ (s.2.2.1).toInt ∧ (s.2.1.toInt = -1 ∨ (0 ≤ s.2.1.toInt ∧ s.2.1.toInt ≤ 59)) ∧ wt_RI s.2.2.2) (fun s : Int32 × Int32 × Int32 × wt_St => ((wt_ga s.2.2.2 253 (Int32.toNatClampNeg x1)).toInt - s.2.2.1.toInt + 0).toNat) (fun KK50 z51 I52 hKK50 => ?_) _ _ ?_ ?_
          · skip
            obtain ⟨l53, l54, l55, l56⟩ := I52
            unfold wp_md_least_B64
            have bb57 := wt_tn x1
            have bb58 := wt_bd (wt_ga z51.2.2.2 253 (Int32.toNatClampNeg x1))
            have g59 : 0 ≤ (wt_ga z51.2.2.2 253 (Int32.toNatClampNeg x1)).toInt ∧ (wt_ga z51.2.2.2 253 (Int32.toNatClampNeg x1)).toInt ≤ 12 := wt_R_ga l56 9 rfl 253 (by decide) (by decide) (Int32.toNatClampNeg x1)
            have tt60 : (wt_ga z51.2.2.2 253 (Int32.toNatClampNeg x1)).toInt = (wt_ga r46 253 (Int32.toNatClampNeg x1)).toInt := congrArg Int32.toInt (l53.2 253 (by (try dsimp only); omega) (Int32.toNatClampNeg x1))
            have bb61 := wt_bd (wt_ga r46 253 (Int32.toNatClampNeg x1))
            have g62 : 0 ≤ (wt_ga r46 253 (Int32.toNatClampNeg x1)).toInt ∧ (wt_ga r46 253 (Int32.toNatClampNeg x1)).toInt ≤ 12 := wt_R_ga ri49 9 rfl 253 (by decide) (by decide) (Int32.toNatClampNeg x1)
            have tt63 : (wt_ga r46 253 (Int32.toNatClampNeg x1)).toInt = (wt_ga r37.2 253 (Int32.toNatClampNeg x1)).toInt := congrArg Int32.toInt (f48.2 253 (by (try dsimp only); omega) (Int32.toNatClampNeg x1))
            have bb64 := wt_bd (wt_ga r37.2 253 (Int32.toNatClampNeg x1))
            have g65 : 0 ≤ (wt_ga r37.2 253 (Int32.toNatClampNeg x1)).toInt ∧ (wt_ga r37.2 253 (Int32.toNatClampNeg x1)).toInt ≤ 12 := wt_R_ga ri40 9 rfl 253 (by decide) (by decide) (Int32.toNatClampNeg x1)
            have tt66 : (wt_ga r37.2 253 (Int32.toNatClampNeg x1)).toInt = (wt_ga r19.2 253 (Int32.toNatClampNeg x1)).toInt := congrArg Int32.toInt (f39.2 253 (fun z => z) (Int32.toNatClampNeg x1))
            have bb67 := wt_bd (wt_ga r19.2 253 (Int32.toNatClampNeg x1))
            have g68 : 0 ≤ (wt_ga r19.2 253 (Int32.toNatClampNeg x1)).toInt ∧ (wt_ga r19.2 253 (Int32.toNatClampNeg x1)).toInt ≤ 12 := wt_R_ga ri22 9 rfl 253 (by decide) (by decide) (Int32.toNatClampNeg x1)
            have tt69 : (wt_ga r19.2 253 (Int32.toNatClampNeg x1)).toInt = (wt_ga σ4 253 (Int32.toNatClampNeg x1)).toInt := congrArg Int32.toInt (f21.2 253 (fun z => z) (Int32.toNatClampNeg x1))
            have bb70 := wt_bd (wt_ga σ4 253 (Int32.toNatClampNeg x1))
            have g71 : 0 ≤ (wt_ga σ4 253 (Int32.toNatClampNeg x1)).toInt ∧ (wt_ga σ4 253 (Int32.toNatClampNeg x1)).toInt ≤ 12 := wt_R_ga rσ4 9 rfl 253 (by decide) (by decide) (Int32.toNatClampNeg x1)
            have tt72 : (wt_ga σ4 253 (Int32.toNatClampNeg x1)).toInt = (wt_ga σ 253 (Int32.toNatClampNeg x1)).toInt := congrArg Int32.toInt (fσ4.2 253 (fun z => z) (Int32.toNatClampNeg x1))
            have bb73 := wt_bd (wt_ga σ 253 (Int32.toNatClampNeg x1))
            have g74 : 0 ≤ (wt_ga σ 253 (Int32.toNatClampNeg x1)).toInt ∧ (wt_ga σ 253 (Int32.toNatClampNeg x1)).toInt ≤ 12 := wt_R_ga r0 9 rfl 253 (by decide) (by decide) (Int32.toNatClampNeg x1)
            have bb75 := wt_bd z51.2.2.1
            refine wt_T_gd (wt_ix (by omega) (by omega)) ?_
            refine wt_T_if (fun h76 => ?_) (fun h76 => ?_)
            · skip
              have c77 := wt_cle h76
              refine wt_T_if (fun h78 => ?_) (fun h78 => ?_)
              · skip
                have c79 := wt_ceq h78
                refine wt_T_some ?_
                exact ⟨(wt_fr.tr (wt_fr.tr (wt_fr.tr (wt_fr.tr (wt_fr.tr wt_fr.rf fσ4 (fun i k h => by (try dsimp only at h); exact (by omega)) (fun i h => h.elim)) f21 (fun i k h => by (try dsimp only at h); exact (by omega)) (fun i h => h.elim)) f39 (fun i k h => by (try dsimp only at h); exact (by omega)) (fun i h => h.elim)) f48 (fun i k h => h.elim) (fun i h => by (try dsimp only at h); rcases h with h | h; exact Or.inl (by omega); exact Or.inr (Or.inl (by omega)))) l53 (fun i k h => h.elim) (fun i h => by (try dsimp only at h); exact Or.inr (Or.inr ((by omega))))), l56⟩
              · skip
                have c80 := wt_nceq h78
                refine wt_T_gd (wt_ix (by omega) (by omega)) ?_
                obtain ⟨j81, j81a, j81b⟩ := wt_subI (wt_ga z51.2.2.2 253 (Int32.toNatClampNeg x1)) (1 : Int32)
                refine wt_T_bi (wq_md_in n hn x2 (0 : Int32) ((wt_ga z51.2.2.2 253 (Int32.toNatClampNeg x1)) - (1 : Int32)) z51.2.2.2 l56) (fun r82 h83 => ?_)
                obtain ⟨e84, pp85⟩ := h83
                have bb86 := wt_bd r82.1
                rw [e84]
                refine wt_T_if (fun h87 => ?_) (fun h87 => ?_)
                · skip
                  have c88 := wt_ceq h87
                  refine wt_T_some ?_
                  exact ⟨(wt_fr.tr (wt_fr.tr (wt_fr.tr (wt_fr.tr (wt_fr.tr wt_fr.rf fσ4 (fun i k h => by (try dsimp only at h); exact (by omega)) (fun i h => h.elim)) f21 (fun i k h => by (try dsimp only at h); exact (by omega)) (fun i h => h.elim)) f39 (fun i k h => by (try dsimp only at h); exact (by omega)) (fun i h => h.elim)) f48 (fun i k h => h.elim) (fun i h => by (try dsimp only at h); rcases h with h | h; exact Or.inl (by omega); exact Or.inr (Or.inl (by omega)))) l53 (fun i k h => h.elim) (fun i h => by (try dsimp only at h); exact Or.inr (Or.inr ((by omega))))), l56⟩
                · skip
                  have c89 := wt_nceq h87
                  refine wt_T_gd (wt_ix (by omega) (by omega)) ?_
                  refine wt_T_some ?_
                  exact ⟨(wt_fr.tr (wt_fr.tr (wt_fr.tr (wt_fr.tr (wt_fr.tr wt_fr.rf fσ4 (fun i k h => by (try dsimp only at h); exact (by omega)) (fun i h => h.elim)) f21 (fun i k h => by (try dsimp only at h); exact (by omega)) (fun i h => h.elim)) f39 (fun i k h => by (try dsimp only at h); exact (by omega)) (fun i h => h.elim)) f48 (fun i k h => h.elim) (fun i h => by (try dsimp only at h); rcases h with h | h; exact Or.inl (by omega); exact Or.inr (Or.inl (by omega)))) l53 (fun i k h => h.elim) (fun i h => by (try dsimp only at h); exact Or.inr (Or.inr ((by omega))))), l56⟩
            · skip
              have c90 := wt_ncle h76
              refine wt_T_it (fun s : Int32 × Int32 × wt_St => s.2.2 = z51.2.2.2 ∧ 0 ≤ (s.2.1).toInt ∧ (s.1.toInt = -1 ∨ (0 ≤ s.1.toInt ∧ s.1.toInt ≤ 59))) (fun s : Int32 × Int32 × wt_St => ((wt_gf s.2.2 108 28).toInt - s.2.1.toInt + 0).toNat) (fun KK91 z92 I93 hKK91 => ?_) _ _ ?_ ?_
              · skip
                obtain ⟨l94, l95, l96⟩ := I93
                unfold wp_md_least_B81
                rw [l94]
                have bb97 := wt_bd (wt_gf z51.2.2.2 108 28)
                have g98 : 0 ≤ (wt_gf z51.2.2.2 108 28).toInt ∧ (wt_gf z51.2.2.2 108 28).toInt ≤ 60 := wt_R_gf l56 6 rfl
                have tt99 : (wt_gf z51.2.2.2 108 28).toInt = (wt_gf r46 108 28).toInt := congrArg Int32.toInt (l53.1 108 28 (fun z => z))
                have bb100 := wt_bd (wt_gf r46 108 28)
                have g101 : 0 ≤ (wt_gf r46 108 28).toInt ∧ (wt_gf r46 108 28).toInt ≤ 60 := wt_R_gf ri49 6 rfl
                have tt102 : (wt_gf r46 108 28).toInt = (wt_gf r37.2 108 28).toInt := congrArg Int32.toInt (f48.1 108 28 (fun z => z))
                have bb103 := wt_bd (wt_gf r37.2 108 28)
                have g104 : 0 ≤ (wt_gf r37.2 108 28).toInt ∧ (wt_gf r37.2 108 28).toInt ≤ 60 := wt_R_gf ri40 6 rfl
                have tt105 : (wt_gf r37.2 108 28).toInt = (wt_gf r19.2 108 28).toInt := congrArg Int32.toInt (f39.1 108 28 (by (try dsimp only); omega))
                have bb106 := wt_bd (wt_gf r19.2 108 28)
                have g107 : 0 ≤ (wt_gf r19.2 108 28).toInt ∧ (wt_gf r19.2 108 28).toInt ≤ 60 := wt_R_gf ri22 6 rfl
                have tt108 : (wt_gf r19.2 108 28).toInt = (wt_gf σ4 108 28).toInt := congrArg Int32.toInt (f21.1 108 28 (by (try dsimp only); omega))
                have bb109 := wt_bd (wt_gf σ4 108 28)
                have g110 : 0 ≤ (wt_gf σ4 108 28).toInt ∧ (wt_gf σ4 108 28).toInt ≤ 60 := wt_R_gf rσ4 6 rfl
                have tt111 : (wt_gf σ4 108 28).toInt = (wt_gf σ 108 28).toInt := congrArg Int32.toInt (fσ4.1 108 28 (by (try dsimp only); omega))
                have bb112 := wt_bd (wt_gf σ 108 28)
                have g113 : 0 ≤ (wt_gf σ 108 28).toInt ∧ (wt_gf σ 108 28).toInt ≤ 60 := wt_R_gf r0 6 rfl
                have bb114 := wt_bd z92.2.1
                refine wt_T_if (fun h115 => ?_) (fun h115 => ?_)
                · skip
                  have c116 := wt_cle h115
                  have bb117 := wt_bd z92.1
                  refine wt_T_if (fun h118 => ?_) (fun h118 => ?_)
                  · skip
                    have c119 := wt_ceq h118
                    rw [wt_lm1] at c119
                    refine wt_T_some ?_
                    exact ⟨(wt_fr.tr (wt_fr.tr (wt_fr.tr (wt_fr.tr (wt_fr.tr wt_fr.rf fσ4 (fun i k h => by (try dsimp only at h); exact (by omega)) (fun i h => h.elim)) f21 (fun i k h => by (try dsimp only at h); exact (by omega)) (fun i h => h.elim)) f39 (fun i k h => by (try dsimp only at h); exact (by omega)) (fun i h => h.elim)) f48 (fun i k h => h.elim) (fun i h => by (try dsimp only at h); rcases h with h | h; exact Or.inl (by omega); exact Or.inr (Or.inl (by omega)))) l53 (fun i k h => h.elim) (fun i h => by (try dsimp only at h); exact Or.inr (Or.inr ((by omega))))), l56⟩
                  · skip
                    have c120 := wt_nceq h118
                    rw [wt_lm1] at c120
                    refine wt_T_if (fun h121 => ?_) (fun h121 => ?_)
                    · skip
                      have c122 := wt_ceq h121
                      refine wt_T_gd (wt_ix (by omega) (by omega)) ?_
                      refine wt_T_gd (wt_ix (by omega) (by omega)) ?_
                      unfold wp_md_least_B208
                      refine wt_T_gd (wt_ix (by omega) (by omega)) ?_
                      obtain ⟨σ123, eσ123⟩ : ∃ z : wt_St, z = wt_sa z51.2.2.2 317 (Int32.toNatClampNeg z51.2.2.1) z92.1 := ⟨_, rfl⟩
                      rw [← eσ123]
                      have fσ123 := wt_fr_sa eσ123
                      have vσ123 := wt_ceq (wt_v_sa eσ123)
                      have bb124 := wt_tn z51.2.2.1
                      have rσ123 := wt_RI_no l56 eσ123 317 318 (by decide) (by decide) (by decide)
                      have bb125 := wt_tn z92.1
                      have bb126 := wt_bd (wt_ga z51.2.2.2 (292 + (Int32.toNatClampNeg z51.2.2.1)) (Int32.toNatClampNeg z92.1))
                      have tt127 : (wt_ga z51.2.2.2 (292 + (Int32.toNatClampNeg z51.2.2.1)) (Int32.toNatClampNeg z92.1)).toInt = (wt_ga r46 (292 + (Int32.toNatClampNeg z51.2.2.1)) (Int32.toNatClampNeg z92.1)).toInt := congrArg Int32.toInt (l53.2 (292 + (Int32.toNatClampNeg z51.2.2.1)) (by (try dsimp only); omega) (Int32.toNatClampNeg z92.1))
                      have bb128 := wt_bd (wt_ga r46 (292 + (Int32.toNatClampNeg z51.2.2.1)) (Int32.toNatClampNeg z92.1))
                      obtain ⟨j129, j129a, j129b⟩ := wt_addI z51.2.2.1 (1 : Int32)
                      have bb130 := wt_bd (wt_ga σ123 253 (Int32.toNatClampNeg x1))
                      have g131 : 0 ≤ (wt_ga σ123 253 (Int32.toNatClampNeg x1)).toInt ∧ (wt_ga σ123 253 (Int32.toNatClampNeg x1)).toInt ≤ 12 := wt_R_ga rσ123 9 rfl 253 (by decide) (by decide) (Int32.toNatClampNeg x1)
                      have tt132 : (wt_ga σ123 253 (Int32.toNatClampNeg x1)).toInt = (wt_ga z51.2.2.2 253 (Int32.toNatClampNeg x1)).toInt := congrArg Int32.toInt (fσ123.2 253 (by (try dsimp only); omega) (Int32.toNatClampNeg x1))
                      refine hKK50 _ ⟨(wt_fr.tr (wt_fr.tr wt_fr.rf l53 (fun i k h => h.elim) (fun i h => by (try dsimp only at h); exact (by omega))) fσ123 (fun i k h => h.elim) (fun i h => by (try dsimp only at h); exact (by omega))), (wt_nn (B := wt_ga z51.2.2.2 253 (Int32.toNatClampNeg x1)) (by omega) (by omega)), (show (z92.1.toInt = -1 ∨ (0 ≤ z92.1.toInt ∧ z92.1.toInt ≤ 59)) by omega), rσ123⟩ ?_
                      show ((wt_ga σ123 253 (Int32.toNatClampNeg x1)).toInt - (z51.2.2.1 + (1 : Int32)).toInt + 0).toNat < ((wt_ga z51.2.2.2 253 (Int32.toNatClampNeg x1)).toInt - z51.2.2.1.toInt + 0).toNat
                      exact wt_mu (by omega) (by omega)
                    · skip
                      have c133 := wt_nceq h121
                      unfold wp_md_least_B208
                      refine wt_T_gd (wt_ix (by omega) (by omega)) ?_
                      obtain ⟨σ134, eσ134⟩ : ∃ z : wt_St, z = wt_sa z51.2.2.2 317 (Int32.toNatClampNeg z51.2.2.1) z92.1 := ⟨_, rfl⟩
                      rw [← eσ134]
                      have fσ134 := wt_fr_sa eσ134
                      have vσ134 := wt_ceq (wt_v_sa eσ134)
                      have bb135 := wt_tn z51.2.2.1
                      have rσ134 := wt_RI_no l56 eσ134 317 318 (by decide) (by decide) (by decide)
                      have bb136 := wt_bd z51.1
                      obtain ⟨j137, j137a, j137b⟩ := wt_addI z51.2.2.1 (1 : Int32)
                      have bb138 := wt_bd (wt_ga σ134 253 (Int32.toNatClampNeg x1))
                      have g139 : 0 ≤ (wt_ga σ134 253 (Int32.toNatClampNeg x1)).toInt ∧ (wt_ga σ134 253 (Int32.toNatClampNeg x1)).toInt ≤ 12 := wt_R_ga rσ134 9 rfl 253 (by decide) (by decide) (Int32.toNatClampNeg x1)
                      have tt140 : (wt_ga σ134 253 (Int32.toNatClampNeg x1)).toInt = (wt_ga z51.2.2.2 253 (Int32.toNatClampNeg x1)).toInt := congrArg Int32.toInt (fσ134.2 253 (by (try dsimp only); omega) (Int32.toNatClampNeg x1))
                      refine hKK50 _ ⟨(wt_fr.tr (wt_fr.tr wt_fr.rf l53 (fun i k h => h.elim) (fun i h => by (try dsimp only at h); exact (by omega))) fσ134 (fun i k h => h.elim) (fun i h => by (try dsimp only at h); exact (by omega))), (wt_nn (B := wt_ga z51.2.2.2 253 (Int32.toNatClampNeg x1)) (by omega) (by omega)), (show (z92.1.toInt = -1 ∨ (0 ≤ z92.1.toInt ∧ z92.1.toInt ≤ 59)) by omega), rσ134⟩ ?_
                      show ((wt_ga σ134 253 (Int32.toNatClampNeg x1)).toInt - (z51.2.2.1 + (1 : Int32)).toInt + 0).toNat < ((wt_ga z51.2.2.2 253 (Int32.toNatClampNeg x1)).toInt - z51.2.2.1.toInt + 0).toNat
                      exact wt_mu (by omega) (by omega)
                · skip
                  have c141 := wt_ncle h115
                  refine wt_T_bi (wq_md_isOf n hn z92.2.1 x1 z51.2.2.1 z51.2.2.2 l56 (by omega) (by omega) (by omega) (by omega) (by omega) (by omega)) (fun r142 h143 => ?_)
                  have e144 := h143
                  have bb145 := wt_bd r142.1
                  rw [e144]
                  refine wt_T_if (fun h146 => ?_) (fun h146 => ?_)
                  · skip
                    have c147 := wt_ceq h146
                    unfold wp_md_least_B174
                    have bb148 := wt_bd z92.1
                    obtain ⟨j149, j149a, j149b⟩ := wt_addI z92.2.1 (1 : Int32)
                    refine hKK91 _ ⟨rfl, (wt_nn (B := wt_gf z92.2.2 108 28) (by omega) (by first | (rw [l94]; omega) | (rw [l94]; done) | omega)), (show (z92.1.toInt = -1 ∨ (0 ≤ z92.1.toInt ∧ z92.1.toInt ≤ 59)) by omega)⟩ ?_
                    show ((wt_gf z51.2.2.2 108 28).toInt - (z92.2.1 + (1 : Int32)).toInt + 0).toNat < ((wt_gf z92.2.2 108 28).toInt - z92.2.1.toInt + 0).toNat
                    exact wt_mu (by first | (rw [l94]; omega) | (rw [l94]; done) | omega) (by first | (rw [l94]; omega) | (rw [l94]; done) | omega)
                  · skip
                    have c150 := wt_nceq h146
                    refine wt_T_gd (wt_ix (by omega) (by omega)) ?_
                    refine wt_T_gd (wt_ix (by omega) (by omega)) ?_
                    have bb151 := wt_tn z51.2.2.1
                    have bb152 := wt_tn z92.2.1
                    have bb153 := wt_bd (wt_ga z51.2.2.2 (292 + (Int32.toNatClampNeg z51.2.2.1)) (Int32.toNatClampNeg z92.2.1))
                    have tt154 : (wt_ga z51.2.2.2 (292 + (Int32.toNatClampNeg z51.2.2.1)) (Int32.toNatClampNeg z92.2.1)).toInt = (wt_ga r46 (292 + (Int32.toNatClampNeg z51.2.2.1)) (Int32.toNatClampNeg z92.2.1)).toInt := congrArg Int32.toInt (l53.2 (292 + (Int32.toNatClampNeg z51.2.2.1)) (by (try dsimp only); omega) (Int32.toNatClampNeg z92.2.1))
                    have bb155 := wt_bd (wt_ga r46 (292 + (Int32.toNatClampNeg z51.2.2.1)) (Int32.toNatClampNeg z92.2.1))
                    refine wt_T_if (fun h156 => ?_) (fun h156 => ?_)
                    · skip
                      have c157 := wt_ceq h156
                      rw [wt_lm1] at c157
                      unfold wp_md_least_B174
                      have bb158 := wt_bd z92.1
                      obtain ⟨j159, j159a, j159b⟩ := wt_addI z92.2.1 (1 : Int32)
                      refine hKK91 _ ⟨rfl, (wt_nn (B := wt_gf z92.2.2 108 28) (by omega) (by first | (rw [l94]; omega) | (rw [l94]; done) | omega)), (show (z92.1.toInt = -1 ∨ (0 ≤ z92.1.toInt ∧ z92.1.toInt ≤ 59)) by omega)⟩ ?_
                      show ((wt_gf z51.2.2.2 108 28).toInt - (z92.2.1 + (1 : Int32)).toInt + 0).toNat < ((wt_gf z92.2.2 108 28).toInt - z92.2.1.toInt + 0).toNat
                      exact wt_mu (by first | (rw [l94]; omega) | (rw [l94]; done) | omega) (by first | (rw [l94]; omega) | (rw [l94]; done) | omega)
                    · skip
                      have c160 := wt_nceq h156
                      rw [wt_lm1] at c160
                      have bb161 := wt_bd z51.2.1
                      refine wt_T_if (fun h162 => ?_) (fun h162 => ?_)
                      · skip
                        have c163 := wt_ceq h162
                        rw [wt_lm1] at c163
                        unfold wp_md_least_B136
                        have bb164 := wt_bd z92.1
                        refine wt_T_if (fun h165 => ?_) (fun h165 => ?_)
                        · skip
                          have c166 := wt_ceq h165
                          rw [wt_lm1] at c166
                          unfold wp_md_least_B165
                          unfold wp_md_least_B172
                          unfold wp_md_least_B174
                          obtain ⟨j167, j167a, j167b⟩ := wt_addI z92.2.1 (1 : Int32)
                          refine hKK91 _ ⟨rfl, (wt_nn (B := wt_gf z92.2.2 108 28) (by omega) (by first | (rw [l94]; omega) | (rw [l94]; done) | omega)), (show (z92.2.1.toInt = -1 ∨ (0 ≤ z92.2.1.toInt ∧ z92.2.1.toInt ≤ 59)) by omega)⟩ ?_
                          show ((wt_gf z51.2.2.2 108 28).toInt - (z92.2.1 + (1 : Int32)).toInt + 0).toNat < ((wt_gf z92.2.2 108 28).toInt - z92.2.1.toInt + 0).toNat
                          exact wt_mu (by first | (rw [l94]; omega) | (rw [l94]; done) | omega) (by first | (rw [l94]; omega) | (rw [l94]; done) | omega)
                        · skip
                          have c168 := wt_nceq h165
                          rw [wt_lm1] at c168
                          refine wt_T_gd (wt_ix (by omega) (by omega)) ?_
                          refine wt_T_gd (wt_ix (by omega) (by omega)) ?_
                          refine wt_T_gd (wt_ix (by omega) (by omega)) ?_
                          refine wt_T_gd (wt_ix (by omega) (by omega)) ?_
                          have bb169 := wt_tn z92.1
                          have bb170 := wt_bd (wt_ga z51.2.2.2 (292 + (Int32.toNatClampNeg z51.2.2.1)) (Int32.toNatClampNeg z92.1))
                          have tt171 : (wt_ga z51.2.2.2 (292 + (Int32.toNatClampNeg z51.2.2.1)) (Int32.toNatClampNeg z92.1)).toInt = (wt_ga r46 (292 + (Int32.toNatClampNeg z51.2.2.1)) (Int32.toNatClampNeg z92.1)).toInt := congrArg Int32.toInt (l53.2 (292 + (Int32.toNatClampNeg z51.2.2.1)) (by (try dsimp only); omega) (Int32.toNatClampNeg z92.1))
                          have bb172 := wt_bd (wt_ga r46 (292 + (Int32.toNatClampNeg z51.2.2.1)) (Int32.toNatClampNeg z92.1))
                          refine wt_T_if (fun h173 => ?_) (fun h173 => ?_)
                          · skip
                            have c174 := wt_cle h173
                            unfold wp_md_least_B172
                            unfold wp_md_least_B174
                            obtain ⟨j175, j175a, j175b⟩ := wt_addI z92.2.1 (1 : Int32)
                            refine hKK91 _ ⟨rfl, (wt_nn (B := wt_gf z92.2.2 108 28) (by omega) (by first | (rw [l94]; omega) | (rw [l94]; done) | omega)), (show (z92.1.toInt = -1 ∨ (0 ≤ z92.1.toInt ∧ z92.1.toInt ≤ 59)) by omega)⟩ ?_
                            show ((wt_gf z51.2.2.2 108 28).toInt - (z92.2.1 + (1 : Int32)).toInt + 0).toNat < ((wt_gf z92.2.2 108 28).toInt - z92.2.1.toInt + 0).toNat
                            exact wt_mu (by first | (rw [l94]; omega) | (rw [l94]; done) | omega) (by first | (rw [l94]; omega) | (rw [l94]; done) | omega)
                          · skip
                            have c176 := wt_ncle h173
                            unfold wp_md_least_B165
                            unfold wp_md_least_B172
                            unfold wp_md_least_B174
                            obtain ⟨j177, j177a, j177b⟩ := wt_addI z92.2.1 (1 : Int32)
                            refine hKK91 _ ⟨rfl, (wt_nn (B := wt_gf z92.2.2 108 28) (by omega) (by first | (rw [l94]; omega) | (rw [l94]; done) | omega)), (show (z92.2.1.toInt = -1 ∨ (0 ≤ z92.2.1.toInt ∧ z92.2.1.toInt ≤ 59)) by omega)⟩ ?_
                            show ((wt_gf z51.2.2.2 108 28).toInt - (z92.2.1 + (1 : Int32)).toInt + 0).toNat < ((wt_gf z92.2.2 108 28).toInt - z92.2.1.toInt + 0).toNat
                            exact wt_mu (by first | (rw [l94]; omega) | (rw [l94]; done) | omega) (by first | (rw [l94]; omega) | (rw [l94]; done) | omega)
                      · skip
                        have c178 := wt_nceq h162
                        rw [wt_lm1] at c178
                        refine wt_T_bi (wq_md_mayFollow n hn z51.2.1 z92.2.1 z51.2.2.2 l56 (by omega) (by omega) (by omega) (by omega)) (fun r179 h180 => ?_)
                        have e181 := h180
                        have bb182 := wt_bd r179.1
                        rw [e181]
                        refine wt_T_if (fun h183 => ?_) (fun h183 => ?_)
                        · skip
                          have c184 := wt_ceq h183
                          unfold wp_md_least_B174
                          have bb185 := wt_bd z92.1
                          obtain ⟨j186, j186a, j186b⟩ := wt_addI z92.2.1 (1 : Int32)
                          refine hKK91 _ ⟨rfl, (wt_nn (B := wt_gf z92.2.2 108 28) (by omega) (by first | (rw [l94]; omega) | (rw [l94]; done) | omega)), (show (z92.1.toInt = -1 ∨ (0 ≤ z92.1.toInt ∧ z92.1.toInt ≤ 59)) by omega)⟩ ?_
                          show ((wt_gf z51.2.2.2 108 28).toInt - (z92.2.1 + (1 : Int32)).toInt + 0).toNat < ((wt_gf z92.2.2 108 28).toInt - z92.2.1.toInt + 0).toNat
                          exact wt_mu (by first | (rw [l94]; omega) | (rw [l94]; done) | omega) (by first | (rw [l94]; omega) | (rw [l94]; done) | omega)
                        · skip
                          have c187 := wt_nceq h183
                          unfold wp_md_least_B136
                          have bb188 := wt_bd z92.1
                          refine wt_T_if (fun h189 => ?_) (fun h189 => ?_)
                          · skip
                            have c190 := wt_ceq h189
                            rw [wt_lm1] at c190
                            unfold wp_md_least_B165
                            unfold wp_md_least_B172
                            unfold wp_md_least_B174
                            obtain ⟨j191, j191a, j191b⟩ := wt_addI z92.2.1 (1 : Int32)
                            refine hKK91 _ ⟨rfl, (wt_nn (B := wt_gf z92.2.2 108 28) (by omega) (by first | (rw [l94]; omega) | (rw [l94]; done) | omega)), (show (z92.2.1.toInt = -1 ∨ (0 ≤ z92.2.1.toInt ∧ z92.2.1.toInt ≤ 59)) by omega)⟩ ?_
                            show ((wt_gf z51.2.2.2 108 28).toInt - (z92.2.1 + (1 : Int32)).toInt + 0).toNat < ((wt_gf z92.2.2 108 28).toInt - z92.2.1.toInt + 0).toNat
                            exact wt_mu (by first | (rw [l94]; omega) | (rw [l94]; done) | omega) (by first | (rw [l94]; omega) | (rw [l94]; done) | omega)
                          · skip
                            have c192 := wt_nceq h189
                            rw [wt_lm1] at c192
                            refine wt_T_gd (wt_ix (by omega) (by omega)) ?_
                            refine wt_T_gd (wt_ix (by omega) (by omega)) ?_
                            refine wt_T_gd (wt_ix (by omega) (by omega)) ?_
                            refine wt_T_gd (wt_ix (by omega) (by omega)) ?_
                            have bb193 := wt_tn z92.1
                            have bb194 := wt_bd (wt_ga z51.2.2.2 (292 + (Int32.toNatClampNeg z51.2.2.1)) (Int32.toNatClampNeg z92.1))
                            have tt195 : (wt_ga z51.2.2.2 (292 + (Int32.toNatClampNeg z51.2.2.1)) (Int32.toNatClampNeg z92.1)).toInt = (wt_ga r46 (292 + (Int32.toNatClampNeg z51.2.2.1)) (Int32.toNatClampNeg z92.1)).toInt := congrArg Int32.toInt (l53.2 (292 + (Int32.toNatClampNeg z51.2.2.1)) (by (try dsimp only); omega) (Int32.toNatClampNeg z92.1))
                            have bb196 := wt_bd (wt_ga r46 (292 + (Int32.toNatClampNeg z51.2.2.1)) (Int32.toNatClampNeg z92.1))
                            refine wt_T_if (fun h197 => ?_) (fun h197 => ?_)
                            · skip
                              have c198 := wt_cle h197
                              unfold wp_md_least_B172
                              unfold wp_md_least_B174
                              obtain ⟨j199, j199a, j199b⟩ := wt_addI z92.2.1 (1 : Int32)
                              refine hKK91 _ ⟨rfl, (wt_nn (B := wt_gf z92.2.2 108 28) (by omega) (by first | (rw [l94]; omega) | (rw [l94]; done) | omega)), (show (z92.1.toInt = -1 ∨ (0 ≤ z92.1.toInt ∧ z92.1.toInt ≤ 59)) by omega)⟩ ?_
                              show ((wt_gf z51.2.2.2 108 28).toInt - (z92.2.1 + (1 : Int32)).toInt + 0).toNat < ((wt_gf z92.2.2 108 28).toInt - z92.2.1.toInt + 0).toNat
                              exact wt_mu (by first | (rw [l94]; omega) | (rw [l94]; done) | omega) (by first | (rw [l94]; omega) | (rw [l94]; done) | omega)
                            · skip
                              have c200 := wt_ncle h197
                              unfold wp_md_least_B165
                              unfold wp_md_least_B172
                              unfold wp_md_least_B174
                              obtain ⟨j201, j201a, j201b⟩ := wt_addI z92.2.1 (1 : Int32)
                              refine hKK91 _ ⟨rfl, (wt_nn (B := wt_gf z92.2.2 108 28) (by omega) (by first | (rw [l94]; omega) | (rw [l94]; done) | omega)), (show (z92.2.1.toInt = -1 ∨ (0 ≤ z92.2.1.toInt ∧ z92.2.1.toInt ≤ 59)) by omega)⟩ ?_
                              show ((wt_gf z51.2.2.2 108 28).toInt - (z92.2.1 + (1 : Int32)).toInt + 0).toNat < ((wt_gf z92.2.2 108 28).toInt - z92.2.1.toInt + 0).toNat
                              exact wt_mu (by first | (rw [l94]; omega) | (rw [l94]; done) | omega) (by first | (rw [l94]; omega) | (rw [l94]; done) | omega)
              · skip
                have bb202 := wt_bd (wt_gf z51.2.2.2 108 28)
                have g203 : 0 ≤ (wt_gf z51.2.2.2 108 28).toInt ∧ (wt_gf z51.2.2.2 108 28).toInt ≤ 60 := wt_R_gf l56 6 rfl
                have tt204 : (wt_gf z51.2.2.2 108 28).toInt = (wt_gf r46 108 28).toInt := congrArg Int32.toInt (l53.1 108 28 (fun z => z))
                have bb205 := wt_bd (wt_gf r46 108 28)
                have g206 : 0 ≤ (wt_gf r46 108 28).toInt ∧ (wt_gf r46 108 28).toInt ≤ 60 := wt_R_gf ri49 6 rfl
                have tt207 : (wt_gf r46 108 28).toInt = (wt_gf r37.2 108 28).toInt := congrArg Int32.toInt (f48.1 108 28 (fun z => z))
                have bb208 := wt_bd (wt_gf r37.2 108 28)
                have g209 : 0 ≤ (wt_gf r37.2 108 28).toInt ∧ (wt_gf r37.2 108 28).toInt ≤ 60 := wt_R_gf ri40 6 rfl
                have tt210 : (wt_gf r37.2 108 28).toInt = (wt_gf r19.2 108 28).toInt := congrArg Int32.toInt (f39.1 108 28 (by (try dsimp only); omega))
                have bb211 := wt_bd (wt_gf r19.2 108 28)
                have g212 : 0 ≤ (wt_gf r19.2 108 28).toInt ∧ (wt_gf r19.2 108 28).toInt ≤ 60 := wt_R_gf ri22 6 rfl
                have tt213 : (wt_gf r19.2 108 28).toInt = (wt_gf σ4 108 28).toInt := congrArg Int32.toInt (f21.1 108 28 (by (try dsimp only); omega))
                have bb214 := wt_bd (wt_gf σ4 108 28)
                have g215 : 0 ≤ (wt_gf σ4 108 28).toInt ∧ (wt_gf σ4 108 28).toInt ≤ 60 := wt_R_gf rσ4 6 rfl
                have tt216 : (wt_gf σ4 108 28).toInt = (wt_gf σ 108 28).toInt := congrArg Int32.toInt (fσ4.1 108 28 (by (try dsimp only); omega))
                have bb217 := wt_bd (wt_gf σ 108 28)
                have g218 : 0 ≤ (wt_gf σ 108 28).toInt ∧ (wt_gf σ 108 28).toInt ≤ 60 := wt_R_gf r0 6 rfl
                have k219 := wt_lm1
                exact ⟨rfl, (show 0 ≤ ((0 : Int32)).toInt by omega), (show ((-1 : Int32).toInt = -1 ∨ (0 ≤ (-1 : Int32).toInt ∧ (-1 : Int32).toInt ≤ 59)) by omega)⟩
              · skip
                have bb220 := wt_bd (wt_gf z51.2.2.2 108 28)
                have g221 : 0 ≤ (wt_gf z51.2.2.2 108 28).toInt ∧ (wt_gf z51.2.2.2 108 28).toInt ≤ 60 := wt_R_gf l56 6 rfl
                have tt222 : (wt_gf z51.2.2.2 108 28).toInt = (wt_gf r46 108 28).toInt := congrArg Int32.toInt (l53.1 108 28 (fun z => z))
                have bb223 := wt_bd (wt_gf r46 108 28)
                have g224 : 0 ≤ (wt_gf r46 108 28).toInt ∧ (wt_gf r46 108 28).toInt ≤ 60 := wt_R_gf ri49 6 rfl
                have tt225 : (wt_gf r46 108 28).toInt = (wt_gf r37.2 108 28).toInt := congrArg Int32.toInt (f48.1 108 28 (fun z => z))
                have bb226 := wt_bd (wt_gf r37.2 108 28)
                have g227 : 0 ≤ (wt_gf r37.2 108 28).toInt ∧ (wt_gf r37.2 108 28).toInt ≤ 60 := wt_R_gf ri40 6 rfl
                have tt228 : (wt_gf r37.2 108 28).toInt = (wt_gf r19.2 108 28).toInt := congrArg Int32.toInt (f39.1 108 28 (by (try dsimp only); omega))
                have bb229 := wt_bd (wt_gf r19.2 108 28)
                have g230 : 0 ≤ (wt_gf r19.2 108 28).toInt ∧ (wt_gf r19.2 108 28).toInt ≤ 60 := wt_R_gf ri22 6 rfl
                have tt231 : (wt_gf r19.2 108 28).toInt = (wt_gf σ4 108 28).toInt := congrArg Int32.toInt (f21.1 108 28 (by (try dsimp only); omega))
                have bb232 := wt_bd (wt_gf σ4 108 28)
                have g233 : 0 ≤ (wt_gf σ4 108 28).toInt ∧ (wt_gf σ4 108 28).toInt ≤ 60 := wt_R_gf rσ4 6 rfl
                have tt234 : (wt_gf σ4 108 28).toInt = (wt_gf σ 108 28).toInt := congrArg Int32.toInt (fσ4.1 108 28 (by (try dsimp only); omega))
                have bb235 := wt_bd (wt_gf σ 108 28)
                have g236 : 0 ≤ (wt_gf σ 108 28).toInt ∧ (wt_gf σ 108 28).toInt ≤ 60 := wt_R_gf r0 6 rfl
                show ((wt_gf z51.2.2.2 108 28).toInt - (0 : Int32).toInt + 0).toNat < n
                omega
          · skip
            have bb237 := wt_tn x1
            have bb238 := wt_bd (wt_ga r46 253 (Int32.toNatClampNeg x1))
            have g239 : 0 ≤ (wt_ga r46 253 (Int32.toNatClampNeg x1)).toInt ∧ (wt_ga r46 253 (Int32.toNatClampNeg x1)).toInt ≤ 12 := wt_R_ga ri49 9 rfl 253 (by decide) (by decide) (Int32.toNatClampNeg x1)
            have tt240 : (wt_ga r46 253 (Int32.toNatClampNeg x1)).toInt = (wt_ga r37.2 253 (Int32.toNatClampNeg x1)).toInt := congrArg Int32.toInt (f48.2 253 (by (try dsimp only); omega) (Int32.toNatClampNeg x1))
            have bb241 := wt_bd (wt_ga r37.2 253 (Int32.toNatClampNeg x1))
            have g242 : 0 ≤ (wt_ga r37.2 253 (Int32.toNatClampNeg x1)).toInt ∧ (wt_ga r37.2 253 (Int32.toNatClampNeg x1)).toInt ≤ 12 := wt_R_ga ri40 9 rfl 253 (by decide) (by decide) (Int32.toNatClampNeg x1)
            have tt243 : (wt_ga r37.2 253 (Int32.toNatClampNeg x1)).toInt = (wt_ga r19.2 253 (Int32.toNatClampNeg x1)).toInt := congrArg Int32.toInt (f39.2 253 (fun z => z) (Int32.toNatClampNeg x1))
            have bb244 := wt_bd (wt_ga r19.2 253 (Int32.toNatClampNeg x1))
            have g245 : 0 ≤ (wt_ga r19.2 253 (Int32.toNatClampNeg x1)).toInt ∧ (wt_ga r19.2 253 (Int32.toNatClampNeg x1)).toInt ≤ 12 := wt_R_ga ri22 9 rfl 253 (by decide) (by decide) (Int32.toNatClampNeg x1)
            have tt246 : (wt_ga r19.2 253 (Int32.toNatClampNeg x1)).toInt = (wt_ga σ4 253 (Int32.toNatClampNeg x1)).toInt := congrArg Int32.toInt (f21.2 253 (fun z => z) (Int32.toNatClampNeg x1))
            have bb247 := wt_bd (wt_ga σ4 253 (Int32.toNatClampNeg x1))
            have g248 : 0 ≤ (wt_ga σ4 253 (Int32.toNatClampNeg x1)).toInt ∧ (wt_ga σ4 253 (Int32.toNatClampNeg x1)).toInt ≤ 12 := wt_R_ga rσ4 9 rfl 253 (by decide) (by decide) (Int32.toNatClampNeg x1)
            have tt249 : (wt_ga σ4 253 (Int32.toNatClampNeg x1)).toInt = (wt_ga σ 253 (Int32.toNatClampNeg x1)).toInt := congrArg Int32.toInt (fσ4.2 253 (fun z => z) (Int32.toNatClampNeg x1))
            have bb250 := wt_bd (wt_ga σ 253 (Int32.toNatClampNeg x1))
            have g251 : 0 ≤ (wt_ga σ 253 (Int32.toNatClampNeg x1)).toInt ∧ (wt_ga σ 253 (Int32.toNatClampNeg x1)).toInt ≤ 12 := wt_R_ga r0 9 rfl 253 (by decide) (by decide) (Int32.toNatClampNeg x1)
            have k252 := wt_lm1
            exact ⟨wt_fr.rf, (show 0 ≤ ((0 : Int32)).toInt by omega), (show ((-1 : Int32).toInt = -1 ∨ (0 ≤ (-1 : Int32).toInt ∧ (-1 : Int32).toInt ≤ 59)) by omega), ri49⟩
          · skip
            have bb253 := wt_tn x1
            have bb254 := wt_bd (wt_ga r46 253 (Int32.toNatClampNeg x1))
            have g255 : 0 ≤ (wt_ga r46 253 (Int32.toNatClampNeg x1)).toInt ∧ (wt_ga r46 253 (Int32.toNatClampNeg x1)).toInt ≤ 12 := wt_R_ga ri49 9 rfl 253 (by decide) (by decide) (Int32.toNatClampNeg x1)
            have tt256 : (wt_ga r46 253 (Int32.toNatClampNeg x1)).toInt = (wt_ga r37.2 253 (Int32.toNatClampNeg x1)).toInt := congrArg Int32.toInt (f48.2 253 (by (try dsimp only); omega) (Int32.toNatClampNeg x1))
            have bb257 := wt_bd (wt_ga r37.2 253 (Int32.toNatClampNeg x1))
            have g258 : 0 ≤ (wt_ga r37.2 253 (Int32.toNatClampNeg x1)).toInt ∧ (wt_ga r37.2 253 (Int32.toNatClampNeg x1)).toInt ≤ 12 := wt_R_ga ri40 9 rfl 253 (by decide) (by decide) (Int32.toNatClampNeg x1)
            have tt259 : (wt_ga r37.2 253 (Int32.toNatClampNeg x1)).toInt = (wt_ga r19.2 253 (Int32.toNatClampNeg x1)).toInt := congrArg Int32.toInt (f39.2 253 (fun z => z) (Int32.toNatClampNeg x1))
            have bb260 := wt_bd (wt_ga r19.2 253 (Int32.toNatClampNeg x1))
            have g261 : 0 ≤ (wt_ga r19.2 253 (Int32.toNatClampNeg x1)).toInt ∧ (wt_ga r19.2 253 (Int32.toNatClampNeg x1)).toInt ≤ 12 := wt_R_ga ri22 9 rfl 253 (by decide) (by decide) (Int32.toNatClampNeg x1)
            have tt262 : (wt_ga r19.2 253 (Int32.toNatClampNeg x1)).toInt = (wt_ga σ4 253 (Int32.toNatClampNeg x1)).toInt := congrArg Int32.toInt (f21.2 253 (fun z => z) (Int32.toNatClampNeg x1))
            have bb263 := wt_bd (wt_ga σ4 253 (Int32.toNatClampNeg x1))
            have g264 : 0 ≤ (wt_ga σ4 253 (Int32.toNatClampNeg x1)).toInt ∧ (wt_ga σ4 253 (Int32.toNatClampNeg x1)).toInt ≤ 12 := wt_R_ga rσ4 9 rfl 253 (by decide) (by decide) (Int32.toNatClampNeg x1)
            have tt265 : (wt_ga σ4 253 (Int32.toNatClampNeg x1)).toInt = (wt_ga σ 253 (Int32.toNatClampNeg x1)).toInt := congrArg Int32.toInt (fσ4.2 253 (fun z => z) (Int32.toNatClampNeg x1))
            have bb266 := wt_bd (wt_ga σ 253 (Int32.toNatClampNeg x1))
            have g267 : 0 ≤ (wt_ga σ 253 (Int32.toNatClampNeg x1)).toInt ∧ (wt_ga σ 253 (Int32.toNatClampNeg x1)).toInt ≤ 12 := wt_R_ga r0 9 rfl 253 (by decide) (by decide) (Int32.toNatClampNeg x1)
            show ((wt_ga r46 253 (Int32.toNatClampNeg x1)).toInt - (0 : Int32).toInt + 0).toNat < n
            omega
        · skip
          have c268 := wt_nceq h44
          refine wt_T_some ?_
          exact ⟨(wt_fr.tr (wt_fr.tr (wt_fr.tr wt_fr.rf fσ4 (fun i k h => by (try dsimp only at h); exact (by omega)) (fun i h => h.elim)) f21 (fun i k h => by (try dsimp only at h); exact (by omega)) (fun i h => h.elim)) f39 (fun i k h => by (try dsimp only at h); exact (by omega)) (fun i h => h.elim)), ri40⟩
      · skip
        have c269 := wt_nceq h34
        unfold wp_md_least_B41
        have k270 : (2 : Int32).toInt = 2 := by decide
        refine wt_T_bi (wq_md_bad n hn (0 : Int32) (2 : Int32) r19.2 ri22 (by omega)) (fun r271 h272 => ?_)
        obtain ⟨f273, ri274, pp275⟩ := h272
        have bb276 := wt_bd r271.1
        have bb277 := wt_bd (wt_gf r271.2 108 0)
        refine wt_T_if (fun h278 => ?_) (fun h278 => ?_)
        · skip
          have c279 := wt_ceq h278
          refine wt_T_bi (wq_md_laysRests n hn x1 r271.2 ri274 (by omega) (by omega)) (fun r280 h281 => ?_)
          obtain ⟨f282, ri283⟩ := h281
          refine wt_T_it (fun s : Int32 × Int32 × Int32 × wt_St => wt_fr (fun i k => False) (fun i => i = 317) r280 s.2.2.2 ∧ 0 ≤ (s.2.2.1).toInt ∧ (s.2.1.toInt = -1 ∨ (0 ≤ s.2.1.toInt ∧ s.2.1.toInt ≤ 59)) ∧ wt_RI s.2.2.2) (fun s : Int32 × Int32 × Int32 × wt_St => ((wt_ga s.2.2.2 253 (Int32.toNatClampNeg x1)).toInt - s.2.2.1.toInt + 0).toNat) (fun KK284 z285 I286 hKK284 => ?_) _ _ ?_ ?_
          · skip
            obtain ⟨l287, l288, l289, l290⟩ := I286
            unfold wp_md_least_B64
            have bb291 := wt_tn x1
            have bb292 := wt_bd (wt_ga z285.2.2.2 253 (Int32.toNatClampNeg x1))
            have g293 : 0 ≤ (wt_ga z285.2.2.2 253 (Int32.toNatClampNeg x1)).toInt ∧ (wt_ga z285.2.2.2 253 (Int32.toNatClampNeg x1)).toInt ≤ 12 := wt_R_ga l290 9 rfl 253 (by decide) (by decide) (Int32.toNatClampNeg x1)
            have tt294 : (wt_ga z285.2.2.2 253 (Int32.toNatClampNeg x1)).toInt = (wt_ga r280 253 (Int32.toNatClampNeg x1)).toInt := congrArg Int32.toInt (l287.2 253 (by (try dsimp only); omega) (Int32.toNatClampNeg x1))
            have bb295 := wt_bd (wt_ga r280 253 (Int32.toNatClampNeg x1))
            have g296 : 0 ≤ (wt_ga r280 253 (Int32.toNatClampNeg x1)).toInt ∧ (wt_ga r280 253 (Int32.toNatClampNeg x1)).toInt ≤ 12 := wt_R_ga ri283 9 rfl 253 (by decide) (by decide) (Int32.toNatClampNeg x1)
            have tt297 : (wt_ga r280 253 (Int32.toNatClampNeg x1)).toInt = (wt_ga r271.2 253 (Int32.toNatClampNeg x1)).toInt := congrArg Int32.toInt (f282.2 253 (by (try dsimp only); omega) (Int32.toNatClampNeg x1))
            have bb298 := wt_bd (wt_ga r271.2 253 (Int32.toNatClampNeg x1))
            have g299 : 0 ≤ (wt_ga r271.2 253 (Int32.toNatClampNeg x1)).toInt ∧ (wt_ga r271.2 253 (Int32.toNatClampNeg x1)).toInt ≤ 12 := wt_R_ga ri274 9 rfl 253 (by decide) (by decide) (Int32.toNatClampNeg x1)
            have tt300 : (wt_ga r271.2 253 (Int32.toNatClampNeg x1)).toInt = (wt_ga r19.2 253 (Int32.toNatClampNeg x1)).toInt := congrArg Int32.toInt (f273.2 253 (fun z => z) (Int32.toNatClampNeg x1))
            have bb301 := wt_bd (wt_ga r19.2 253 (Int32.toNatClampNeg x1))
            have g302 : 0 ≤ (wt_ga r19.2 253 (Int32.toNatClampNeg x1)).toInt ∧ (wt_ga r19.2 253 (Int32.toNatClampNeg x1)).toInt ≤ 12 := wt_R_ga ri22 9 rfl 253 (by decide) (by decide) (Int32.toNatClampNeg x1)
            have tt303 : (wt_ga r19.2 253 (Int32.toNatClampNeg x1)).toInt = (wt_ga σ4 253 (Int32.toNatClampNeg x1)).toInt := congrArg Int32.toInt (f21.2 253 (fun z => z) (Int32.toNatClampNeg x1))
            have bb304 := wt_bd (wt_ga σ4 253 (Int32.toNatClampNeg x1))
            have g305 : 0 ≤ (wt_ga σ4 253 (Int32.toNatClampNeg x1)).toInt ∧ (wt_ga σ4 253 (Int32.toNatClampNeg x1)).toInt ≤ 12 := wt_R_ga rσ4 9 rfl 253 (by decide) (by decide) (Int32.toNatClampNeg x1)
            have tt306 : (wt_ga σ4 253 (Int32.toNatClampNeg x1)).toInt = (wt_ga σ 253 (Int32.toNatClampNeg x1)).toInt := congrArg Int32.toInt (fσ4.2 253 (fun z => z) (Int32.toNatClampNeg x1))
            have bb307 := wt_bd (wt_ga σ 253 (Int32.toNatClampNeg x1))
            have g308 : 0 ≤ (wt_ga σ 253 (Int32.toNatClampNeg x1)).toInt ∧ (wt_ga σ 253 (Int32.toNatClampNeg x1)).toInt ≤ 12 := wt_R_ga r0 9 rfl 253 (by decide) (by decide) (Int32.toNatClampNeg x1)
            have bb309 := wt_bd z285.2.2.1
            refine wt_T_gd (wt_ix (by omega) (by omega)) ?_
            refine wt_T_if (fun h310 => ?_) (fun h310 => ?_)
            · skip
              have c311 := wt_cle h310
              refine wt_T_if (fun h312 => ?_) (fun h312 => ?_)
              · skip
                have c313 := wt_ceq h312
                refine wt_T_some ?_
                exact ⟨(wt_fr.tr (wt_fr.tr (wt_fr.tr (wt_fr.tr (wt_fr.tr wt_fr.rf fσ4 (fun i k h => by (try dsimp only at h); exact (by omega)) (fun i h => h.elim)) f21 (fun i k h => by (try dsimp only at h); exact (by omega)) (fun i h => h.elim)) f273 (fun i k h => by (try dsimp only at h); exact (by omega)) (fun i h => h.elim)) f282 (fun i k h => h.elim) (fun i h => by (try dsimp only at h); rcases h with h | h; exact Or.inl (by omega); exact Or.inr (Or.inl (by omega)))) l287 (fun i k h => h.elim) (fun i h => by (try dsimp only at h); exact Or.inr (Or.inr ((by omega))))), l290⟩
              · skip
                have c314 := wt_nceq h312
                refine wt_T_gd (wt_ix (by omega) (by omega)) ?_
                obtain ⟨j315, j315a, j315b⟩ := wt_subI (wt_ga z285.2.2.2 253 (Int32.toNatClampNeg x1)) (1 : Int32)
                refine wt_T_bi (wq_md_in n hn x2 (0 : Int32) ((wt_ga z285.2.2.2 253 (Int32.toNatClampNeg x1)) - (1 : Int32)) z285.2.2.2 l290) (fun r316 h317 => ?_)
                obtain ⟨e318, pp319⟩ := h317
                have bb320 := wt_bd r316.1
                rw [e318]
                refine wt_T_if (fun h321 => ?_) (fun h321 => ?_)
                · skip
                  have c322 := wt_ceq h321
                  refine wt_T_some ?_
                  exact ⟨(wt_fr.tr (wt_fr.tr (wt_fr.tr (wt_fr.tr (wt_fr.tr wt_fr.rf fσ4 (fun i k h => by (try dsimp only at h); exact (by omega)) (fun i h => h.elim)) f21 (fun i k h => by (try dsimp only at h); exact (by omega)) (fun i h => h.elim)) f273 (fun i k h => by (try dsimp only at h); exact (by omega)) (fun i h => h.elim)) f282 (fun i k h => h.elim) (fun i h => by (try dsimp only at h); rcases h with h | h; exact Or.inl (by omega); exact Or.inr (Or.inl (by omega)))) l287 (fun i k h => h.elim) (fun i h => by (try dsimp only at h); exact Or.inr (Or.inr ((by omega))))), l290⟩
                · skip
                  have c323 := wt_nceq h321
                  refine wt_T_gd (wt_ix (by omega) (by omega)) ?_
                  refine wt_T_some ?_
                  exact ⟨(wt_fr.tr (wt_fr.tr (wt_fr.tr (wt_fr.tr (wt_fr.tr wt_fr.rf fσ4 (fun i k h => by (try dsimp only at h); exact (by omega)) (fun i h => h.elim)) f21 (fun i k h => by (try dsimp only at h); exact (by omega)) (fun i h => h.elim)) f273 (fun i k h => by (try dsimp only at h); exact (by omega)) (fun i h => h.elim)) f282 (fun i k h => h.elim) (fun i h => by (try dsimp only at h); rcases h with h | h; exact Or.inl (by omega); exact Or.inr (Or.inl (by omega)))) l287 (fun i k h => h.elim) (fun i h => by (try dsimp only at h); exact Or.inr (Or.inr ((by omega))))), l290⟩
            · skip
              have c324 := wt_ncle h310
              refine wt_T_it (fun s : Int32 × Int32 × wt_St => s.2.2 = z285.2.2.2 ∧ 0 ≤ (s.2.1).toInt ∧ (s.1.toInt = -1 ∨ (0 ≤ s.1.toInt ∧ s.1.toInt ≤ 59))) (fun s : Int32 × Int32 × wt_St => ((wt_gf s.2.2 108 28).toInt - s.2.1.toInt + 0).toNat) (fun KK325 z326 I327 hKK325 => ?_) _ _ ?_ ?_
              · skip
                obtain ⟨l328, l329, l330⟩ := I327
                unfold wp_md_least_B81
                rw [l328]
                have bb331 := wt_bd (wt_gf z285.2.2.2 108 28)
                have g332 : 0 ≤ (wt_gf z285.2.2.2 108 28).toInt ∧ (wt_gf z285.2.2.2 108 28).toInt ≤ 60 := wt_R_gf l290 6 rfl
                have tt333 : (wt_gf z285.2.2.2 108 28).toInt = (wt_gf r280 108 28).toInt := congrArg Int32.toInt (l287.1 108 28 (fun z => z))
                have bb334 := wt_bd (wt_gf r280 108 28)
                have g335 : 0 ≤ (wt_gf r280 108 28).toInt ∧ (wt_gf r280 108 28).toInt ≤ 60 := wt_R_gf ri283 6 rfl
                have tt336 : (wt_gf r280 108 28).toInt = (wt_gf r271.2 108 28).toInt := congrArg Int32.toInt (f282.1 108 28 (fun z => z))
                have bb337 := wt_bd (wt_gf r271.2 108 28)
                have g338 : 0 ≤ (wt_gf r271.2 108 28).toInt ∧ (wt_gf r271.2 108 28).toInt ≤ 60 := wt_R_gf ri274 6 rfl
                have tt339 : (wt_gf r271.2 108 28).toInt = (wt_gf r19.2 108 28).toInt := congrArg Int32.toInt (f273.1 108 28 (by (try dsimp only); omega))
                have bb340 := wt_bd (wt_gf r19.2 108 28)
                have g341 : 0 ≤ (wt_gf r19.2 108 28).toInt ∧ (wt_gf r19.2 108 28).toInt ≤ 60 := wt_R_gf ri22 6 rfl
                have tt342 : (wt_gf r19.2 108 28).toInt = (wt_gf σ4 108 28).toInt := congrArg Int32.toInt (f21.1 108 28 (by (try dsimp only); omega))
                have bb343 := wt_bd (wt_gf σ4 108 28)
                have g344 : 0 ≤ (wt_gf σ4 108 28).toInt ∧ (wt_gf σ4 108 28).toInt ≤ 60 := wt_R_gf rσ4 6 rfl
                have tt345 : (wt_gf σ4 108 28).toInt = (wt_gf σ 108 28).toInt := congrArg Int32.toInt (fσ4.1 108 28 (by (try dsimp only); omega))
                have bb346 := wt_bd (wt_gf σ 108 28)
                have g347 : 0 ≤ (wt_gf σ 108 28).toInt ∧ (wt_gf σ 108 28).toInt ≤ 60 := wt_R_gf r0 6 rfl
                have bb348 := wt_bd z326.2.1
                refine wt_T_if (fun h349 => ?_) (fun h349 => ?_)
                · skip
                  have c350 := wt_cle h349
                  have bb351 := wt_bd z326.1
                  refine wt_T_if (fun h352 => ?_) (fun h352 => ?_)
                  · skip
                    have c353 := wt_ceq h352
                    rw [wt_lm1] at c353
                    refine wt_T_some ?_
                    exact ⟨(wt_fr.tr (wt_fr.tr (wt_fr.tr (wt_fr.tr (wt_fr.tr wt_fr.rf fσ4 (fun i k h => by (try dsimp only at h); exact (by omega)) (fun i h => h.elim)) f21 (fun i k h => by (try dsimp only at h); exact (by omega)) (fun i h => h.elim)) f273 (fun i k h => by (try dsimp only at h); exact (by omega)) (fun i h => h.elim)) f282 (fun i k h => h.elim) (fun i h => by (try dsimp only at h); rcases h with h | h; exact Or.inl (by omega); exact Or.inr (Or.inl (by omega)))) l287 (fun i k h => h.elim) (fun i h => by (try dsimp only at h); exact Or.inr (Or.inr ((by omega))))), l290⟩
                  · skip
                    have c354 := wt_nceq h352
                    rw [wt_lm1] at c354
                    refine wt_T_if (fun h355 => ?_) (fun h355 => ?_)
                    · skip
                      have c356 := wt_ceq h355
                      refine wt_T_gd (wt_ix (by omega) (by omega)) ?_
                      refine wt_T_gd (wt_ix (by omega) (by omega)) ?_
                      unfold wp_md_least_B208
                      refine wt_T_gd (wt_ix (by omega) (by omega)) ?_
                      obtain ⟨σ357, eσ357⟩ : ∃ z : wt_St, z = wt_sa z285.2.2.2 317 (Int32.toNatClampNeg z285.2.2.1) z326.1 := ⟨_, rfl⟩
                      rw [← eσ357]
                      have fσ357 := wt_fr_sa eσ357
                      have vσ357 := wt_ceq (wt_v_sa eσ357)
                      have bb358 := wt_tn z285.2.2.1
                      have rσ357 := wt_RI_no l290 eσ357 317 318 (by decide) (by decide) (by decide)
                      have bb359 := wt_tn z326.1
                      have bb360 := wt_bd (wt_ga z285.2.2.2 (292 + (Int32.toNatClampNeg z285.2.2.1)) (Int32.toNatClampNeg z326.1))
                      have tt361 : (wt_ga z285.2.2.2 (292 + (Int32.toNatClampNeg z285.2.2.1)) (Int32.toNatClampNeg z326.1)).toInt = (wt_ga r280 (292 + (Int32.toNatClampNeg z285.2.2.1)) (Int32.toNatClampNeg z326.1)).toInt := congrArg Int32.toInt (l287.2 (292 + (Int32.toNatClampNeg z285.2.2.1)) (by (try dsimp only); omega) (Int32.toNatClampNeg z326.1))
                      have bb362 := wt_bd (wt_ga r280 (292 + (Int32.toNatClampNeg z285.2.2.1)) (Int32.toNatClampNeg z326.1))
                      obtain ⟨j363, j363a, j363b⟩ := wt_addI z285.2.2.1 (1 : Int32)
                      have bb364 := wt_bd (wt_ga σ357 253 (Int32.toNatClampNeg x1))
                      have g365 : 0 ≤ (wt_ga σ357 253 (Int32.toNatClampNeg x1)).toInt ∧ (wt_ga σ357 253 (Int32.toNatClampNeg x1)).toInt ≤ 12 := wt_R_ga rσ357 9 rfl 253 (by decide) (by decide) (Int32.toNatClampNeg x1)
                      have tt366 : (wt_ga σ357 253 (Int32.toNatClampNeg x1)).toInt = (wt_ga z285.2.2.2 253 (Int32.toNatClampNeg x1)).toInt := congrArg Int32.toInt (fσ357.2 253 (by (try dsimp only); omega) (Int32.toNatClampNeg x1))
                      refine hKK284 _ ⟨(wt_fr.tr (wt_fr.tr wt_fr.rf l287 (fun i k h => h.elim) (fun i h => by (try dsimp only at h); exact (by omega))) fσ357 (fun i k h => h.elim) (fun i h => by (try dsimp only at h); exact (by omega))), (wt_nn (B := wt_ga z285.2.2.2 253 (Int32.toNatClampNeg x1)) (by omega) (by omega)), (show (z326.1.toInt = -1 ∨ (0 ≤ z326.1.toInt ∧ z326.1.toInt ≤ 59)) by omega), rσ357⟩ ?_
                      show ((wt_ga σ357 253 (Int32.toNatClampNeg x1)).toInt - (z285.2.2.1 + (1 : Int32)).toInt + 0).toNat < ((wt_ga z285.2.2.2 253 (Int32.toNatClampNeg x1)).toInt - z285.2.2.1.toInt + 0).toNat
                      exact wt_mu (by omega) (by omega)
                    · skip
                      have c367 := wt_nceq h355
                      unfold wp_md_least_B208
                      refine wt_T_gd (wt_ix (by omega) (by omega)) ?_
                      obtain ⟨σ368, eσ368⟩ : ∃ z : wt_St, z = wt_sa z285.2.2.2 317 (Int32.toNatClampNeg z285.2.2.1) z326.1 := ⟨_, rfl⟩
                      rw [← eσ368]
                      have fσ368 := wt_fr_sa eσ368
                      have vσ368 := wt_ceq (wt_v_sa eσ368)
                      have bb369 := wt_tn z285.2.2.1
                      have rσ368 := wt_RI_no l290 eσ368 317 318 (by decide) (by decide) (by decide)
                      have bb370 := wt_bd z285.1
                      obtain ⟨j371, j371a, j371b⟩ := wt_addI z285.2.2.1 (1 : Int32)
                      have bb372 := wt_bd (wt_ga σ368 253 (Int32.toNatClampNeg x1))
                      have g373 : 0 ≤ (wt_ga σ368 253 (Int32.toNatClampNeg x1)).toInt ∧ (wt_ga σ368 253 (Int32.toNatClampNeg x1)).toInt ≤ 12 := wt_R_ga rσ368 9 rfl 253 (by decide) (by decide) (Int32.toNatClampNeg x1)
                      have tt374 : (wt_ga σ368 253 (Int32.toNatClampNeg x1)).toInt = (wt_ga z285.2.2.2 253 (Int32.toNatClampNeg x1)).toInt := congrArg Int32.toInt (fσ368.2 253 (by (try dsimp only); omega) (Int32.toNatClampNeg x1))
                      refine hKK284 _ ⟨(wt_fr.tr (wt_fr.tr wt_fr.rf l287 (fun i k h => h.elim) (fun i h => by (try dsimp only at h); exact (by omega))) fσ368 (fun i k h => h.elim) (fun i h => by (try dsimp only at h); exact (by omega))), (wt_nn (B := wt_ga z285.2.2.2 253 (Int32.toNatClampNeg x1)) (by omega) (by omega)), (show (z326.1.toInt = -1 ∨ (0 ≤ z326.1.toInt ∧ z326.1.toInt ≤ 59)) by omega), rσ368⟩ ?_
                      show ((wt_ga σ368 253 (Int32.toNatClampNeg x1)).toInt - (z285.2.2.1 + (1 : Int32)).toInt + 0).toNat < ((wt_ga z285.2.2.2 253 (Int32.toNatClampNeg x1)).toInt - z285.2.2.1.toInt + 0).toNat
                      exact wt_mu (by omega) (by omega)
                · skip
                  have c375 := wt_ncle h349
                  refine wt_T_bi (wq_md_isOf n hn z326.2.1 x1 z285.2.2.1 z285.2.2.2 l290 (by omega) (by omega) (by omega) (by omega) (by omega) (by omega)) (fun r376 h377 => ?_)
                  have e378 := h377
                  have bb379 := wt_bd r376.1
                  rw [e378]
                  refine wt_T_if (fun h380 => ?_) (fun h380 => ?_)
                  · skip
                    have c381 := wt_ceq h380
                    unfold wp_md_least_B174
                    have bb382 := wt_bd z326.1
                    obtain ⟨j383, j383a, j383b⟩ := wt_addI z326.2.1 (1 : Int32)
                    refine hKK325 _ ⟨rfl, (wt_nn (B := wt_gf z326.2.2 108 28) (by omega) (by first | (rw [l328]; omega) | (rw [l328]; done) | omega)), (show (z326.1.toInt = -1 ∨ (0 ≤ z326.1.toInt ∧ z326.1.toInt ≤ 59)) by omega)⟩ ?_
                    show ((wt_gf z285.2.2.2 108 28).toInt - (z326.2.1 + (1 : Int32)).toInt + 0).toNat < ((wt_gf z326.2.2 108 28).toInt - z326.2.1.toInt + 0).toNat
                    exact wt_mu (by first | (rw [l328]; omega) | (rw [l328]; done) | omega) (by first | (rw [l328]; omega) | (rw [l328]; done) | omega)
                  · skip
                    have c384 := wt_nceq h380
                    refine wt_T_gd (wt_ix (by omega) (by omega)) ?_
                    refine wt_T_gd (wt_ix (by omega) (by omega)) ?_
                    have bb385 := wt_tn z285.2.2.1
                    have bb386 := wt_tn z326.2.1
                    have bb387 := wt_bd (wt_ga z285.2.2.2 (292 + (Int32.toNatClampNeg z285.2.2.1)) (Int32.toNatClampNeg z326.2.1))
                    have tt388 : (wt_ga z285.2.2.2 (292 + (Int32.toNatClampNeg z285.2.2.1)) (Int32.toNatClampNeg z326.2.1)).toInt = (wt_ga r280 (292 + (Int32.toNatClampNeg z285.2.2.1)) (Int32.toNatClampNeg z326.2.1)).toInt := congrArg Int32.toInt (l287.2 (292 + (Int32.toNatClampNeg z285.2.2.1)) (by (try dsimp only); omega) (Int32.toNatClampNeg z326.2.1))
                    have bb389 := wt_bd (wt_ga r280 (292 + (Int32.toNatClampNeg z285.2.2.1)) (Int32.toNatClampNeg z326.2.1))
                    refine wt_T_if (fun h390 => ?_) (fun h390 => ?_)
                    · skip
                      have c391 := wt_ceq h390
                      rw [wt_lm1] at c391
                      unfold wp_md_least_B174
                      have bb392 := wt_bd z326.1
                      obtain ⟨j393, j393a, j393b⟩ := wt_addI z326.2.1 (1 : Int32)
                      refine hKK325 _ ⟨rfl, (wt_nn (B := wt_gf z326.2.2 108 28) (by omega) (by first | (rw [l328]; omega) | (rw [l328]; done) | omega)), (show (z326.1.toInt = -1 ∨ (0 ≤ z326.1.toInt ∧ z326.1.toInt ≤ 59)) by omega)⟩ ?_
                      show ((wt_gf z285.2.2.2 108 28).toInt - (z326.2.1 + (1 : Int32)).toInt + 0).toNat < ((wt_gf z326.2.2 108 28).toInt - z326.2.1.toInt + 0).toNat
                      exact wt_mu (by first | (rw [l328]; omega) | (rw [l328]; done) | omega) (by first | (rw [l328]; omega) | (rw [l328]; done) | omega)
                    · skip
                      have c394 := wt_nceq h390
                      rw [wt_lm1] at c394
                      have bb395 := wt_bd z285.2.1
                      refine wt_T_if (fun h396 => ?_) (fun h396 => ?_)
                      · skip
                        have c397 := wt_ceq h396
                        rw [wt_lm1] at c397
                        unfold wp_md_least_B136
                        have bb398 := wt_bd z326.1
                        refine wt_T_if (fun h399 => ?_) (fun h399 => ?_)
                        · skip
                          have c400 := wt_ceq h399
                          rw [wt_lm1] at c400
                          unfold wp_md_least_B165
                          unfold wp_md_least_B172
                          unfold wp_md_least_B174
                          obtain ⟨j401, j401a, j401b⟩ := wt_addI z326.2.1 (1 : Int32)
                          refine hKK325 _ ⟨rfl, (wt_nn (B := wt_gf z326.2.2 108 28) (by omega) (by first | (rw [l328]; omega) | (rw [l328]; done) | omega)), (show (z326.2.1.toInt = -1 ∨ (0 ≤ z326.2.1.toInt ∧ z326.2.1.toInt ≤ 59)) by omega)⟩ ?_
                          show ((wt_gf z285.2.2.2 108 28).toInt - (z326.2.1 + (1 : Int32)).toInt + 0).toNat < ((wt_gf z326.2.2 108 28).toInt - z326.2.1.toInt + 0).toNat
                          exact wt_mu (by first | (rw [l328]; omega) | (rw [l328]; done) | omega) (by first | (rw [l328]; omega) | (rw [l328]; done) | omega)
                        · skip
                          have c402 := wt_nceq h399
                          rw [wt_lm1] at c402
                          refine wt_T_gd (wt_ix (by omega) (by omega)) ?_
                          refine wt_T_gd (wt_ix (by omega) (by omega)) ?_
                          refine wt_T_gd (wt_ix (by omega) (by omega)) ?_
                          refine wt_T_gd (wt_ix (by omega) (by omega)) ?_
                          have bb403 := wt_tn z326.1
                          have bb404 := wt_bd (wt_ga z285.2.2.2 (292 + (Int32.toNatClampNeg z285.2.2.1)) (Int32.toNatClampNeg z326.1))
                          have tt405 : (wt_ga z285.2.2.2 (292 + (Int32.toNatClampNeg z285.2.2.1)) (Int32.toNatClampNeg z326.1)).toInt = (wt_ga r280 (292 + (Int32.toNatClampNeg z285.2.2.1)) (Int32.toNatClampNeg z326.1)).toInt := congrArg Int32.toInt (l287.2 (292 + (Int32.toNatClampNeg z285.2.2.1)) (by (try dsimp only); omega) (Int32.toNatClampNeg z326.1))
                          have bb406 := wt_bd (wt_ga r280 (292 + (Int32.toNatClampNeg z285.2.2.1)) (Int32.toNatClampNeg z326.1))
                          refine wt_T_if (fun h407 => ?_) (fun h407 => ?_)
                          · skip
                            have c408 := wt_cle h407
                            unfold wp_md_least_B172
                            unfold wp_md_least_B174
                            obtain ⟨j409, j409a, j409b⟩ := wt_addI z326.2.1 (1 : Int32)
                            refine hKK325 _ ⟨rfl, (wt_nn (B := wt_gf z326.2.2 108 28) (by omega) (by first | (rw [l328]; omega) | (rw [l328]; done) | omega)), (show (z326.1.toInt = -1 ∨ (0 ≤ z326.1.toInt ∧ z326.1.toInt ≤ 59)) by omega)⟩ ?_
                            show ((wt_gf z285.2.2.2 108 28).toInt - (z326.2.1 + (1 : Int32)).toInt + 0).toNat < ((wt_gf z326.2.2 108 28).toInt - z326.2.1.toInt + 0).toNat
                            exact wt_mu (by first | (rw [l328]; omega) | (rw [l328]; done) | omega) (by first | (rw [l328]; omega) | (rw [l328]; done) | omega)
                          · skip
                            have c410 := wt_ncle h407
                            unfold wp_md_least_B165
                            unfold wp_md_least_B172
                            unfold wp_md_least_B174
                            obtain ⟨j411, j411a, j411b⟩ := wt_addI z326.2.1 (1 : Int32)
                            refine hKK325 _ ⟨rfl, (wt_nn (B := wt_gf z326.2.2 108 28) (by omega) (by first | (rw [l328]; omega) | (rw [l328]; done) | omega)), (show (z326.2.1.toInt = -1 ∨ (0 ≤ z326.2.1.toInt ∧ z326.2.1.toInt ≤ 59)) by omega)⟩ ?_
                            show ((wt_gf z285.2.2.2 108 28).toInt - (z326.2.1 + (1 : Int32)).toInt + 0).toNat < ((wt_gf z326.2.2 108 28).toInt - z326.2.1.toInt + 0).toNat
                            exact wt_mu (by first | (rw [l328]; omega) | (rw [l328]; done) | omega) (by first | (rw [l328]; omega) | (rw [l328]; done) | omega)
                      · skip
                        have c412 := wt_nceq h396
                        rw [wt_lm1] at c412
                        refine wt_T_bi (wq_md_mayFollow n hn z285.2.1 z326.2.1 z285.2.2.2 l290 (by omega) (by omega) (by omega) (by omega)) (fun r413 h414 => ?_)
                        have e415 := h414
                        have bb416 := wt_bd r413.1
                        rw [e415]
                        refine wt_T_if (fun h417 => ?_) (fun h417 => ?_)
                        · skip
                          have c418 := wt_ceq h417
                          unfold wp_md_least_B174
                          have bb419 := wt_bd z326.1
                          obtain ⟨j420, j420a, j420b⟩ := wt_addI z326.2.1 (1 : Int32)
                          refine hKK325 _ ⟨rfl, (wt_nn (B := wt_gf z326.2.2 108 28) (by omega) (by first | (rw [l328]; omega) | (rw [l328]; done) | omega)), (show (z326.1.toInt = -1 ∨ (0 ≤ z326.1.toInt ∧ z326.1.toInt ≤ 59)) by omega)⟩ ?_
                          show ((wt_gf z285.2.2.2 108 28).toInt - (z326.2.1 + (1 : Int32)).toInt + 0).toNat < ((wt_gf z326.2.2 108 28).toInt - z326.2.1.toInt + 0).toNat
                          exact wt_mu (by first | (rw [l328]; omega) | (rw [l328]; done) | omega) (by first | (rw [l328]; omega) | (rw [l328]; done) | omega)
                        · skip
                          have c421 := wt_nceq h417
                          unfold wp_md_least_B136
                          have bb422 := wt_bd z326.1
                          refine wt_T_if (fun h423 => ?_) (fun h423 => ?_)
                          · skip
                            have c424 := wt_ceq h423
                            rw [wt_lm1] at c424
                            unfold wp_md_least_B165
                            unfold wp_md_least_B172
                            unfold wp_md_least_B174
                            obtain ⟨j425, j425a, j425b⟩ := wt_addI z326.2.1 (1 : Int32)
                            refine hKK325 _ ⟨rfl, (wt_nn (B := wt_gf z326.2.2 108 28) (by omega) (by first | (rw [l328]; omega) | (rw [l328]; done) | omega)), (show (z326.2.1.toInt = -1 ∨ (0 ≤ z326.2.1.toInt ∧ z326.2.1.toInt ≤ 59)) by omega)⟩ ?_
                            show ((wt_gf z285.2.2.2 108 28).toInt - (z326.2.1 + (1 : Int32)).toInt + 0).toNat < ((wt_gf z326.2.2 108 28).toInt - z326.2.1.toInt + 0).toNat
                            exact wt_mu (by first | (rw [l328]; omega) | (rw [l328]; done) | omega) (by first | (rw [l328]; omega) | (rw [l328]; done) | omega)
                          · skip
                            have c426 := wt_nceq h423
                            rw [wt_lm1] at c426
                            refine wt_T_gd (wt_ix (by omega) (by omega)) ?_
                            refine wt_T_gd (wt_ix (by omega) (by omega)) ?_
                            refine wt_T_gd (wt_ix (by omega) (by omega)) ?_
                            refine wt_T_gd (wt_ix (by omega) (by omega)) ?_
                            have bb427 := wt_tn z326.1
                            have bb428 := wt_bd (wt_ga z285.2.2.2 (292 + (Int32.toNatClampNeg z285.2.2.1)) (Int32.toNatClampNeg z326.1))
                            have tt429 : (wt_ga z285.2.2.2 (292 + (Int32.toNatClampNeg z285.2.2.1)) (Int32.toNatClampNeg z326.1)).toInt = (wt_ga r280 (292 + (Int32.toNatClampNeg z285.2.2.1)) (Int32.toNatClampNeg z326.1)).toInt := congrArg Int32.toInt (l287.2 (292 + (Int32.toNatClampNeg z285.2.2.1)) (by (try dsimp only); omega) (Int32.toNatClampNeg z326.1))
                            have bb430 := wt_bd (wt_ga r280 (292 + (Int32.toNatClampNeg z285.2.2.1)) (Int32.toNatClampNeg z326.1))
                            refine wt_T_if (fun h431 => ?_) (fun h431 => ?_)
                            · skip
                              have c432 := wt_cle h431
                              unfold wp_md_least_B172
                              unfold wp_md_least_B174
                              obtain ⟨j433, j433a, j433b⟩ := wt_addI z326.2.1 (1 : Int32)
                              refine hKK325 _ ⟨rfl, (wt_nn (B := wt_gf z326.2.2 108 28) (by omega) (by first | (rw [l328]; omega) | (rw [l328]; done) | omega)), (show (z326.1.toInt = -1 ∨ (0 ≤ z326.1.toInt ∧ z326.1.toInt ≤ 59)) by omega)⟩ ?_
                              show ((wt_gf z285.2.2.2 108 28).toInt - (z326.2.1 + (1 : Int32)).toInt + 0).toNat < ((wt_gf z326.2.2 108 28).toInt - z326.2.1.toInt + 0).toNat
                              exact wt_mu (by first | (rw [l328]; omega) | (rw [l328]; done) | omega) (by first | (rw [l328]; omega) | (rw [l328]; done) | omega)
                            · skip
                              have c434 := wt_ncle h431
                              unfold wp_md_least_B165
                              unfold wp_md_least_B172
                              unfold wp_md_least_B174
                              obtain ⟨j435, j435a, j435b⟩ := wt_addI z326.2.1 (1 : Int32)
                              refine hKK325 _ ⟨rfl, (wt_nn (B := wt_gf z326.2.2 108 28) (by omega) (by first | (rw [l328]; omega) | (rw [l328]; done) | omega)), (show (z326.2.1.toInt = -1 ∨ (0 ≤ z326.2.1.toInt ∧ z326.2.1.toInt ≤ 59)) by omega)⟩ ?_
                              show ((wt_gf z285.2.2.2 108 28).toInt - (z326.2.1 + (1 : Int32)).toInt + 0).toNat < ((wt_gf z326.2.2 108 28).toInt - z326.2.1.toInt + 0).toNat
                              exact wt_mu (by first | (rw [l328]; omega) | (rw [l328]; done) | omega) (by first | (rw [l328]; omega) | (rw [l328]; done) | omega)
              · skip
                have bb436 := wt_bd (wt_gf z285.2.2.2 108 28)
                have g437 : 0 ≤ (wt_gf z285.2.2.2 108 28).toInt ∧ (wt_gf z285.2.2.2 108 28).toInt ≤ 60 := wt_R_gf l290 6 rfl
                have tt438 : (wt_gf z285.2.2.2 108 28).toInt = (wt_gf r280 108 28).toInt := congrArg Int32.toInt (l287.1 108 28 (fun z => z))
                have bb439 := wt_bd (wt_gf r280 108 28)
                have g440 : 0 ≤ (wt_gf r280 108 28).toInt ∧ (wt_gf r280 108 28).toInt ≤ 60 := wt_R_gf ri283 6 rfl
                have tt441 : (wt_gf r280 108 28).toInt = (wt_gf r271.2 108 28).toInt := congrArg Int32.toInt (f282.1 108 28 (fun z => z))
                have bb442 := wt_bd (wt_gf r271.2 108 28)
                have g443 : 0 ≤ (wt_gf r271.2 108 28).toInt ∧ (wt_gf r271.2 108 28).toInt ≤ 60 := wt_R_gf ri274 6 rfl
                have tt444 : (wt_gf r271.2 108 28).toInt = (wt_gf r19.2 108 28).toInt := congrArg Int32.toInt (f273.1 108 28 (by (try dsimp only); omega))
                have bb445 := wt_bd (wt_gf r19.2 108 28)
                have g446 : 0 ≤ (wt_gf r19.2 108 28).toInt ∧ (wt_gf r19.2 108 28).toInt ≤ 60 := wt_R_gf ri22 6 rfl
                have tt447 : (wt_gf r19.2 108 28).toInt = (wt_gf σ4 108 28).toInt := congrArg Int32.toInt (f21.1 108 28 (by (try dsimp only); omega))
                have bb448 := wt_bd (wt_gf σ4 108 28)
                have g449 : 0 ≤ (wt_gf σ4 108 28).toInt ∧ (wt_gf σ4 108 28).toInt ≤ 60 := wt_R_gf rσ4 6 rfl
                have tt450 : (wt_gf σ4 108 28).toInt = (wt_gf σ 108 28).toInt := congrArg Int32.toInt (fσ4.1 108 28 (by (try dsimp only); omega))
                have bb451 := wt_bd (wt_gf σ 108 28)
                have g452 : 0 ≤ (wt_gf σ 108 28).toInt ∧ (wt_gf σ 108 28).toInt ≤ 60 := wt_R_gf r0 6 rfl
                have k453 := wt_lm1
                exact ⟨rfl, (show 0 ≤ ((0 : Int32)).toInt by omega), (show ((-1 : Int32).toInt = -1 ∨ (0 ≤ (-1 : Int32).toInt ∧ (-1 : Int32).toInt ≤ 59)) by omega)⟩
              · skip
                have bb454 := wt_bd (wt_gf z285.2.2.2 108 28)
                have g455 : 0 ≤ (wt_gf z285.2.2.2 108 28).toInt ∧ (wt_gf z285.2.2.2 108 28).toInt ≤ 60 := wt_R_gf l290 6 rfl
                have tt456 : (wt_gf z285.2.2.2 108 28).toInt = (wt_gf r280 108 28).toInt := congrArg Int32.toInt (l287.1 108 28 (fun z => z))
                have bb457 := wt_bd (wt_gf r280 108 28)
                have g458 : 0 ≤ (wt_gf r280 108 28).toInt ∧ (wt_gf r280 108 28).toInt ≤ 60 := wt_R_gf ri283 6 rfl
                have tt459 : (wt_gf r280 108 28).toInt = (wt_gf r271.2 108 28).toInt := congrArg Int32.toInt (f282.1 108 28 (fun z => z))
                have bb460 := wt_bd (wt_gf r271.2 108 28)
                have g461 : 0 ≤ (wt_gf r271.2 108 28).toInt ∧ (wt_gf r271.2 108 28).toInt ≤ 60 := wt_R_gf ri274 6 rfl
                have tt462 : (wt_gf r271.2 108 28).toInt = (wt_gf r19.2 108 28).toInt := congrArg Int32.toInt (f273.1 108 28 (by (try dsimp only); omega))
                have bb463 := wt_bd (wt_gf r19.2 108 28)
                have g464 : 0 ≤ (wt_gf r19.2 108 28).toInt ∧ (wt_gf r19.2 108 28).toInt ≤ 60 := wt_R_gf ri22 6 rfl
                have tt465 : (wt_gf r19.2 108 28).toInt = (wt_gf σ4 108 28).toInt := congrArg Int32.toInt (f21.1 108 28 (by (try dsimp only); omega))
                have bb466 := wt_bd (wt_gf σ4 108 28)
                have g467 : 0 ≤ (wt_gf σ4 108 28).toInt ∧ (wt_gf σ4 108 28).toInt ≤ 60 := wt_R_gf rσ4 6 rfl
                have tt468 : (wt_gf σ4 108 28).toInt = (wt_gf σ 108 28).toInt := congrArg Int32.toInt (fσ4.1 108 28 (by (try dsimp only); omega))
                have bb469 := wt_bd (wt_gf σ 108 28)
                have g470 : 0 ≤ (wt_gf σ 108 28).toInt ∧ (wt_gf σ 108 28).toInt ≤ 60 := wt_R_gf r0 6 rfl
                show ((wt_gf z285.2.2.2 108 28).toInt - (0 : Int32).toInt + 0).toNat < n
                omega
          · skip
            have bb471 := wt_tn x1
            have bb472 := wt_bd (wt_ga r280 253 (Int32.toNatClampNeg x1))
            have g473 : 0 ≤ (wt_ga r280 253 (Int32.toNatClampNeg x1)).toInt ∧ (wt_ga r280 253 (Int32.toNatClampNeg x1)).toInt ≤ 12 := wt_R_ga ri283 9 rfl 253 (by decide) (by decide) (Int32.toNatClampNeg x1)
            have tt474 : (wt_ga r280 253 (Int32.toNatClampNeg x1)).toInt = (wt_ga r271.2 253 (Int32.toNatClampNeg x1)).toInt := congrArg Int32.toInt (f282.2 253 (by (try dsimp only); omega) (Int32.toNatClampNeg x1))
            have bb475 := wt_bd (wt_ga r271.2 253 (Int32.toNatClampNeg x1))
            have g476 : 0 ≤ (wt_ga r271.2 253 (Int32.toNatClampNeg x1)).toInt ∧ (wt_ga r271.2 253 (Int32.toNatClampNeg x1)).toInt ≤ 12 := wt_R_ga ri274 9 rfl 253 (by decide) (by decide) (Int32.toNatClampNeg x1)
            have tt477 : (wt_ga r271.2 253 (Int32.toNatClampNeg x1)).toInt = (wt_ga r19.2 253 (Int32.toNatClampNeg x1)).toInt := congrArg Int32.toInt (f273.2 253 (fun z => z) (Int32.toNatClampNeg x1))
            have bb478 := wt_bd (wt_ga r19.2 253 (Int32.toNatClampNeg x1))
            have g479 : 0 ≤ (wt_ga r19.2 253 (Int32.toNatClampNeg x1)).toInt ∧ (wt_ga r19.2 253 (Int32.toNatClampNeg x1)).toInt ≤ 12 := wt_R_ga ri22 9 rfl 253 (by decide) (by decide) (Int32.toNatClampNeg x1)
            have tt480 : (wt_ga r19.2 253 (Int32.toNatClampNeg x1)).toInt = (wt_ga σ4 253 (Int32.toNatClampNeg x1)).toInt := congrArg Int32.toInt (f21.2 253 (fun z => z) (Int32.toNatClampNeg x1))
            have bb481 := wt_bd (wt_ga σ4 253 (Int32.toNatClampNeg x1))
            have g482 : 0 ≤ (wt_ga σ4 253 (Int32.toNatClampNeg x1)).toInt ∧ (wt_ga σ4 253 (Int32.toNatClampNeg x1)).toInt ≤ 12 := wt_R_ga rσ4 9 rfl 253 (by decide) (by decide) (Int32.toNatClampNeg x1)
            have tt483 : (wt_ga σ4 253 (Int32.toNatClampNeg x1)).toInt = (wt_ga σ 253 (Int32.toNatClampNeg x1)).toInt := congrArg Int32.toInt (fσ4.2 253 (fun z => z) (Int32.toNatClampNeg x1))
            have bb484 := wt_bd (wt_ga σ 253 (Int32.toNatClampNeg x1))
            have g485 : 0 ≤ (wt_ga σ 253 (Int32.toNatClampNeg x1)).toInt ∧ (wt_ga σ 253 (Int32.toNatClampNeg x1)).toInt ≤ 12 := wt_R_ga r0 9 rfl 253 (by decide) (by decide) (Int32.toNatClampNeg x1)
            have k486 := wt_lm1
            exact ⟨wt_fr.rf, (show 0 ≤ ((0 : Int32)).toInt by omega), (show ((-1 : Int32).toInt = -1 ∨ (0 ≤ (-1 : Int32).toInt ∧ (-1 : Int32).toInt ≤ 59)) by omega), ri283⟩
          · skip
            have bb487 := wt_tn x1
            have bb488 := wt_bd (wt_ga r280 253 (Int32.toNatClampNeg x1))
            have g489 : 0 ≤ (wt_ga r280 253 (Int32.toNatClampNeg x1)).toInt ∧ (wt_ga r280 253 (Int32.toNatClampNeg x1)).toInt ≤ 12 := wt_R_ga ri283 9 rfl 253 (by decide) (by decide) (Int32.toNatClampNeg x1)
            have tt490 : (wt_ga r280 253 (Int32.toNatClampNeg x1)).toInt = (wt_ga r271.2 253 (Int32.toNatClampNeg x1)).toInt := congrArg Int32.toInt (f282.2 253 (by (try dsimp only); omega) (Int32.toNatClampNeg x1))
            have bb491 := wt_bd (wt_ga r271.2 253 (Int32.toNatClampNeg x1))
            have g492 : 0 ≤ (wt_ga r271.2 253 (Int32.toNatClampNeg x1)).toInt ∧ (wt_ga r271.2 253 (Int32.toNatClampNeg x1)).toInt ≤ 12 := wt_R_ga ri274 9 rfl 253 (by decide) (by decide) (Int32.toNatClampNeg x1)
            have tt493 : (wt_ga r271.2 253 (Int32.toNatClampNeg x1)).toInt = (wt_ga r19.2 253 (Int32.toNatClampNeg x1)).toInt := congrArg Int32.toInt (f273.2 253 (fun z => z) (Int32.toNatClampNeg x1))
            have bb494 := wt_bd (wt_ga r19.2 253 (Int32.toNatClampNeg x1))
            have g495 : 0 ≤ (wt_ga r19.2 253 (Int32.toNatClampNeg x1)).toInt ∧ (wt_ga r19.2 253 (Int32.toNatClampNeg x1)).toInt ≤ 12 := wt_R_ga ri22 9 rfl 253 (by decide) (by decide) (Int32.toNatClampNeg x1)
            have tt496 : (wt_ga r19.2 253 (Int32.toNatClampNeg x1)).toInt = (wt_ga σ4 253 (Int32.toNatClampNeg x1)).toInt := congrArg Int32.toInt (f21.2 253 (fun z => z) (Int32.toNatClampNeg x1))
            have bb497 := wt_bd (wt_ga σ4 253 (Int32.toNatClampNeg x1))
            have g498 : 0 ≤ (wt_ga σ4 253 (Int32.toNatClampNeg x1)).toInt ∧ (wt_ga σ4 253 (Int32.toNatClampNeg x1)).toInt ≤ 12 := wt_R_ga rσ4 9 rfl 253 (by decide) (by decide) (Int32.toNatClampNeg x1)
            have tt499 : (wt_ga σ4 253 (Int32.toNatClampNeg x1)).toInt = (wt_ga σ 253 (Int32.toNatClampNeg x1)).toInt := congrArg Int32.toInt (fσ4.2 253 (fun z => z) (Int32.toNatClampNeg x1))
            have bb500 := wt_bd (wt_ga σ 253 (Int32.toNatClampNeg x1))
            have g501 : 0 ≤ (wt_ga σ 253 (Int32.toNatClampNeg x1)).toInt ∧ (wt_ga σ 253 (Int32.toNatClampNeg x1)).toInt ≤ 12 := wt_R_ga r0 9 rfl 253 (by decide) (by decide) (Int32.toNatClampNeg x1)
            show ((wt_ga r280 253 (Int32.toNatClampNeg x1)).toInt - (0 : Int32).toInt + 0).toNat < n
            omega
        · skip
          have c502 := wt_nceq h278
          refine wt_T_some ?_
          exact ⟨(wt_fr.tr (wt_fr.tr (wt_fr.tr wt_fr.rf fσ4 (fun i k h => by (try dsimp only at h); exact (by omega)) (fun i h => h.elim)) f21 (fun i k h => by (try dsimp only at h); exact (by omega)) (fun i h => h.elim)) f273 (fun i k h => by (try dsimp only at h); exact (by omega)) (fun i h => h.elim)), ri274⟩
    · skip
      have c503 := wt_nceq h27
      refine wt_T_some ?_
      exact ⟨(wt_fr.tr (wt_fr.tr wt_fr.rf fσ4 (fun i k h => by (try dsimp only at h); exact (by omega)) (fun i h => h.elim)) f21 (fun i k h => by (try dsimp only at h); exact (by omega)) (fun i h => h.elim)), ri22⟩
  · skip
    have c504 := wt_nceq h16
    unfold wp_md_least_B19
    have k505 : (1 : Int32).toInt = 1 := by decide
    refine wt_T_bi (wq_md_bad n hn (0 : Int32) (1 : Int32) σ4 rσ4 (by omega)) (fun r506 h507 => ?_)
    obtain ⟨f508, ri509, pp510⟩ := h507
    have bb511 := wt_bd r506.1
    have bb512 := wt_bd (wt_gf r506.2 108 0)
    have bb513 := wt_bd (wt_gf σ4 108 0)
    refine wt_T_if (fun h514 => ?_) (fun h514 => ?_)
    · skip
      have c515 := wt_ceq h514
      refine wt_T_bi (wq_md_in n hn x3 (0 : Int32) (1 : Int32) r506.2 ri509) (fun r516 h517 => ?_)
      obtain ⟨e518, pp519⟩ := h517
      have bb520 := wt_bd r516.1
      rw [e518]
      refine wt_T_if (fun h521 => ?_) (fun h521 => ?_)
      · skip
        have c522 := wt_ceq h521
        unfold wp_md_least_B41
        have k523 : (2 : Int32).toInt = 2 := by decide
        refine wt_T_bi (wq_md_bad n hn (1 : Int32) (2 : Int32) r506.2 ri509 (by omega)) (fun r524 h525 => ?_)
        obtain ⟨f526, ri527, pp528⟩ := h525
        have bb529 := wt_bd r524.1
        have bb530 := wt_bd (wt_gf r524.2 108 0)
        refine wt_T_if (fun h531 => ?_) (fun h531 => ?_)
        · skip
          have c532 := wt_ceq h531
          refine wt_T_bi (wq_md_laysRests n hn x1 r524.2 ri527 (by omega) (by omega)) (fun r533 h534 => ?_)
          obtain ⟨f535, ri536⟩ := h534
          refine wt_T_it (fun s : Int32 × Int32 × Int32 × wt_St => wt_fr (fun i k => False) (fun i => i = 317) r533 s.2.2.2 ∧ 0 ≤ (s.2.2.1).toInt ∧ (s.2.1.toInt = -1 ∨ (0 ≤ s.2.1.toInt ∧ s.2.1.toInt ≤ 59)) ∧ wt_RI s.2.2.2) (fun s : Int32 × Int32 × Int32 × wt_St => ((wt_ga s.2.2.2 253 (Int32.toNatClampNeg x1)).toInt - s.2.2.1.toInt + 0).toNat) (fun KK537 z538 I539 hKK537 => ?_) _ _ ?_ ?_
          · skip
            obtain ⟨l540, l541, l542, l543⟩ := I539
            unfold wp_md_least_B64
            have bb544 := wt_tn x1
            have bb545 := wt_bd (wt_ga z538.2.2.2 253 (Int32.toNatClampNeg x1))
            have g546 : 0 ≤ (wt_ga z538.2.2.2 253 (Int32.toNatClampNeg x1)).toInt ∧ (wt_ga z538.2.2.2 253 (Int32.toNatClampNeg x1)).toInt ≤ 12 := wt_R_ga l543 9 rfl 253 (by decide) (by decide) (Int32.toNatClampNeg x1)
            have tt547 : (wt_ga z538.2.2.2 253 (Int32.toNatClampNeg x1)).toInt = (wt_ga r533 253 (Int32.toNatClampNeg x1)).toInt := congrArg Int32.toInt (l540.2 253 (by (try dsimp only); omega) (Int32.toNatClampNeg x1))
            have bb548 := wt_bd (wt_ga r533 253 (Int32.toNatClampNeg x1))
            have g549 : 0 ≤ (wt_ga r533 253 (Int32.toNatClampNeg x1)).toInt ∧ (wt_ga r533 253 (Int32.toNatClampNeg x1)).toInt ≤ 12 := wt_R_ga ri536 9 rfl 253 (by decide) (by decide) (Int32.toNatClampNeg x1)
            have tt550 : (wt_ga r533 253 (Int32.toNatClampNeg x1)).toInt = (wt_ga r524.2 253 (Int32.toNatClampNeg x1)).toInt := congrArg Int32.toInt (f535.2 253 (by (try dsimp only); omega) (Int32.toNatClampNeg x1))
            have bb551 := wt_bd (wt_ga r524.2 253 (Int32.toNatClampNeg x1))
            have g552 : 0 ≤ (wt_ga r524.2 253 (Int32.toNatClampNeg x1)).toInt ∧ (wt_ga r524.2 253 (Int32.toNatClampNeg x1)).toInt ≤ 12 := wt_R_ga ri527 9 rfl 253 (by decide) (by decide) (Int32.toNatClampNeg x1)
            have tt553 : (wt_ga r524.2 253 (Int32.toNatClampNeg x1)).toInt = (wt_ga r506.2 253 (Int32.toNatClampNeg x1)).toInt := congrArg Int32.toInt (f526.2 253 (fun z => z) (Int32.toNatClampNeg x1))
            have bb554 := wt_bd (wt_ga r506.2 253 (Int32.toNatClampNeg x1))
            have g555 : 0 ≤ (wt_ga r506.2 253 (Int32.toNatClampNeg x1)).toInt ∧ (wt_ga r506.2 253 (Int32.toNatClampNeg x1)).toInt ≤ 12 := wt_R_ga ri509 9 rfl 253 (by decide) (by decide) (Int32.toNatClampNeg x1)
            have tt556 : (wt_ga r506.2 253 (Int32.toNatClampNeg x1)).toInt = (wt_ga σ4 253 (Int32.toNatClampNeg x1)).toInt := congrArg Int32.toInt (f508.2 253 (fun z => z) (Int32.toNatClampNeg x1))
            have bb557 := wt_bd (wt_ga σ4 253 (Int32.toNatClampNeg x1))
            have g558 : 0 ≤ (wt_ga σ4 253 (Int32.toNatClampNeg x1)).toInt ∧ (wt_ga σ4 253 (Int32.toNatClampNeg x1)).toInt ≤ 12 := wt_R_ga rσ4 9 rfl 253 (by decide) (by decide) (Int32.toNatClampNeg x1)
            have tt559 : (wt_ga σ4 253 (Int32.toNatClampNeg x1)).toInt = (wt_ga σ 253 (Int32.toNatClampNeg x1)).toInt := congrArg Int32.toInt (fσ4.2 253 (fun z => z) (Int32.toNatClampNeg x1))
            have bb560 := wt_bd (wt_ga σ 253 (Int32.toNatClampNeg x1))
            have g561 : 0 ≤ (wt_ga σ 253 (Int32.toNatClampNeg x1)).toInt ∧ (wt_ga σ 253 (Int32.toNatClampNeg x1)).toInt ≤ 12 := wt_R_ga r0 9 rfl 253 (by decide) (by decide) (Int32.toNatClampNeg x1)
            have bb562 := wt_bd z538.2.2.1
            refine wt_T_gd (wt_ix (by omega) (by omega)) ?_
            refine wt_T_if (fun h563 => ?_) (fun h563 => ?_)
            · skip
              have c564 := wt_cle h563
              refine wt_T_if (fun h565 => ?_) (fun h565 => ?_)
              · skip
                have c566 := wt_ceq h565
                refine wt_T_some ?_
                exact ⟨(wt_fr.tr (wt_fr.tr (wt_fr.tr (wt_fr.tr (wt_fr.tr wt_fr.rf fσ4 (fun i k h => by (try dsimp only at h); exact (by omega)) (fun i h => h.elim)) f508 (fun i k h => by (try dsimp only at h); exact (by omega)) (fun i h => h.elim)) f526 (fun i k h => by (try dsimp only at h); exact (by omega)) (fun i h => h.elim)) f535 (fun i k h => h.elim) (fun i h => by (try dsimp only at h); rcases h with h | h; exact Or.inl (by omega); exact Or.inr (Or.inl (by omega)))) l540 (fun i k h => h.elim) (fun i h => by (try dsimp only at h); exact Or.inr (Or.inr ((by omega))))), l543⟩
              · skip
                have c567 := wt_nceq h565
                refine wt_T_gd (wt_ix (by omega) (by omega)) ?_
                obtain ⟨j568, j568a, j568b⟩ := wt_subI (wt_ga z538.2.2.2 253 (Int32.toNatClampNeg x1)) (1 : Int32)
                refine wt_T_bi (wq_md_in n hn x2 (0 : Int32) ((wt_ga z538.2.2.2 253 (Int32.toNatClampNeg x1)) - (1 : Int32)) z538.2.2.2 l543) (fun r569 h570 => ?_)
                obtain ⟨e571, pp572⟩ := h570
                have bb573 := wt_bd r569.1
                rw [e571]
                refine wt_T_if (fun h574 => ?_) (fun h574 => ?_)
                · skip
                  have c575 := wt_ceq h574
                  refine wt_T_some ?_
                  exact ⟨(wt_fr.tr (wt_fr.tr (wt_fr.tr (wt_fr.tr (wt_fr.tr wt_fr.rf fσ4 (fun i k h => by (try dsimp only at h); exact (by omega)) (fun i h => h.elim)) f508 (fun i k h => by (try dsimp only at h); exact (by omega)) (fun i h => h.elim)) f526 (fun i k h => by (try dsimp only at h); exact (by omega)) (fun i h => h.elim)) f535 (fun i k h => h.elim) (fun i h => by (try dsimp only at h); rcases h with h | h; exact Or.inl (by omega); exact Or.inr (Or.inl (by omega)))) l540 (fun i k h => h.elim) (fun i h => by (try dsimp only at h); exact Or.inr (Or.inr ((by omega))))), l543⟩
                · skip
                  have c576 := wt_nceq h574
                  refine wt_T_gd (wt_ix (by omega) (by omega)) ?_
                  refine wt_T_some ?_
                  exact ⟨(wt_fr.tr (wt_fr.tr (wt_fr.tr (wt_fr.tr (wt_fr.tr wt_fr.rf fσ4 (fun i k h => by (try dsimp only at h); exact (by omega)) (fun i h => h.elim)) f508 (fun i k h => by (try dsimp only at h); exact (by omega)) (fun i h => h.elim)) f526 (fun i k h => by (try dsimp only at h); exact (by omega)) (fun i h => h.elim)) f535 (fun i k h => h.elim) (fun i h => by (try dsimp only at h); rcases h with h | h; exact Or.inl (by omega); exact Or.inr (Or.inl (by omega)))) l540 (fun i k h => h.elim) (fun i h => by (try dsimp only at h); exact Or.inr (Or.inr ((by omega))))), l543⟩
            · skip
              have c577 := wt_ncle h563
              refine wt_T_it (fun s : Int32 × Int32 × wt_St => s.2.2 = z538.2.2.2 ∧ 0 ≤ (s.2.1).toInt ∧ (s.1.toInt = -1 ∨ (0 ≤ s.1.toInt ∧ s.1.toInt ≤ 59))) (fun s : Int32 × Int32 × wt_St => ((wt_gf s.2.2 108 28).toInt - s.2.1.toInt + 0).toNat) (fun KK578 z579 I580 hKK578 => ?_) _ _ ?_ ?_
              · skip
                obtain ⟨l581, l582, l583⟩ := I580
                unfold wp_md_least_B81
                rw [l581]
                have bb584 := wt_bd (wt_gf z538.2.2.2 108 28)
                have g585 : 0 ≤ (wt_gf z538.2.2.2 108 28).toInt ∧ (wt_gf z538.2.2.2 108 28).toInt ≤ 60 := wt_R_gf l543 6 rfl
                have tt586 : (wt_gf z538.2.2.2 108 28).toInt = (wt_gf r533 108 28).toInt := congrArg Int32.toInt (l540.1 108 28 (fun z => z))
                have bb587 := wt_bd (wt_gf r533 108 28)
                have g588 : 0 ≤ (wt_gf r533 108 28).toInt ∧ (wt_gf r533 108 28).toInt ≤ 60 := wt_R_gf ri536 6 rfl
                have tt589 : (wt_gf r533 108 28).toInt = (wt_gf r524.2 108 28).toInt := congrArg Int32.toInt (f535.1 108 28 (fun z => z))
                have bb590 := wt_bd (wt_gf r524.2 108 28)
                have g591 : 0 ≤ (wt_gf r524.2 108 28).toInt ∧ (wt_gf r524.2 108 28).toInt ≤ 60 := wt_R_gf ri527 6 rfl
                have tt592 : (wt_gf r524.2 108 28).toInt = (wt_gf r506.2 108 28).toInt := congrArg Int32.toInt (f526.1 108 28 (by (try dsimp only); omega))
                have bb593 := wt_bd (wt_gf r506.2 108 28)
                have g594 : 0 ≤ (wt_gf r506.2 108 28).toInt ∧ (wt_gf r506.2 108 28).toInt ≤ 60 := wt_R_gf ri509 6 rfl
                have tt595 : (wt_gf r506.2 108 28).toInt = (wt_gf σ4 108 28).toInt := congrArg Int32.toInt (f508.1 108 28 (by (try dsimp only); omega))
                have bb596 := wt_bd (wt_gf σ4 108 28)
                have g597 : 0 ≤ (wt_gf σ4 108 28).toInt ∧ (wt_gf σ4 108 28).toInt ≤ 60 := wt_R_gf rσ4 6 rfl
                have tt598 : (wt_gf σ4 108 28).toInt = (wt_gf σ 108 28).toInt := congrArg Int32.toInt (fσ4.1 108 28 (by (try dsimp only); omega))
                have bb599 := wt_bd (wt_gf σ 108 28)
                have g600 : 0 ≤ (wt_gf σ 108 28).toInt ∧ (wt_gf σ 108 28).toInt ≤ 60 := wt_R_gf r0 6 rfl
                have bb601 := wt_bd z579.2.1
                refine wt_T_if (fun h602 => ?_) (fun h602 => ?_)
                · skip
                  have c603 := wt_cle h602
                  have bb604 := wt_bd z579.1
                  refine wt_T_if (fun h605 => ?_) (fun h605 => ?_)
                  · skip
                    have c606 := wt_ceq h605
                    rw [wt_lm1] at c606
                    refine wt_T_some ?_
                    exact ⟨(wt_fr.tr (wt_fr.tr (wt_fr.tr (wt_fr.tr (wt_fr.tr wt_fr.rf fσ4 (fun i k h => by (try dsimp only at h); exact (by omega)) (fun i h => h.elim)) f508 (fun i k h => by (try dsimp only at h); exact (by omega)) (fun i h => h.elim)) f526 (fun i k h => by (try dsimp only at h); exact (by omega)) (fun i h => h.elim)) f535 (fun i k h => h.elim) (fun i h => by (try dsimp only at h); rcases h with h | h; exact Or.inl (by omega); exact Or.inr (Or.inl (by omega)))) l540 (fun i k h => h.elim) (fun i h => by (try dsimp only at h); exact Or.inr (Or.inr ((by omega))))), l543⟩
                  · skip
                    have c607 := wt_nceq h605
                    rw [wt_lm1] at c607
                    refine wt_T_if (fun h608 => ?_) (fun h608 => ?_)
                    · skip
                      have c609 := wt_ceq h608
                      refine wt_T_gd (wt_ix (by omega) (by omega)) ?_
                      refine wt_T_gd (wt_ix (by omega) (by omega)) ?_
                      unfold wp_md_least_B208
                      refine wt_T_gd (wt_ix (by omega) (by omega)) ?_
                      obtain ⟨σ610, eσ610⟩ : ∃ z : wt_St, z = wt_sa z538.2.2.2 317 (Int32.toNatClampNeg z538.2.2.1) z579.1 := ⟨_, rfl⟩
                      rw [← eσ610]
                      have fσ610 := wt_fr_sa eσ610
                      have vσ610 := wt_ceq (wt_v_sa eσ610)
                      have bb611 := wt_tn z538.2.2.1
                      have rσ610 := wt_RI_no l543 eσ610 317 318 (by decide) (by decide) (by decide)
                      have bb612 := wt_tn z579.1
                      have bb613 := wt_bd (wt_ga z538.2.2.2 (292 + (Int32.toNatClampNeg z538.2.2.1)) (Int32.toNatClampNeg z579.1))
                      have tt614 : (wt_ga z538.2.2.2 (292 + (Int32.toNatClampNeg z538.2.2.1)) (Int32.toNatClampNeg z579.1)).toInt = (wt_ga r533 (292 + (Int32.toNatClampNeg z538.2.2.1)) (Int32.toNatClampNeg z579.1)).toInt := congrArg Int32.toInt (l540.2 (292 + (Int32.toNatClampNeg z538.2.2.1)) (by (try dsimp only); omega) (Int32.toNatClampNeg z579.1))
                      have bb615 := wt_bd (wt_ga r533 (292 + (Int32.toNatClampNeg z538.2.2.1)) (Int32.toNatClampNeg z579.1))
                      obtain ⟨j616, j616a, j616b⟩ := wt_addI z538.2.2.1 (1 : Int32)
                      have bb617 := wt_bd (wt_ga σ610 253 (Int32.toNatClampNeg x1))
                      have g618 : 0 ≤ (wt_ga σ610 253 (Int32.toNatClampNeg x1)).toInt ∧ (wt_ga σ610 253 (Int32.toNatClampNeg x1)).toInt ≤ 12 := wt_R_ga rσ610 9 rfl 253 (by decide) (by decide) (Int32.toNatClampNeg x1)
                      have tt619 : (wt_ga σ610 253 (Int32.toNatClampNeg x1)).toInt = (wt_ga z538.2.2.2 253 (Int32.toNatClampNeg x1)).toInt := congrArg Int32.toInt (fσ610.2 253 (by (try dsimp only); omega) (Int32.toNatClampNeg x1))
                      refine hKK537 _ ⟨(wt_fr.tr (wt_fr.tr wt_fr.rf l540 (fun i k h => h.elim) (fun i h => by (try dsimp only at h); exact (by omega))) fσ610 (fun i k h => h.elim) (fun i h => by (try dsimp only at h); exact (by omega))), (wt_nn (B := wt_ga z538.2.2.2 253 (Int32.toNatClampNeg x1)) (by omega) (by omega)), (show (z579.1.toInt = -1 ∨ (0 ≤ z579.1.toInt ∧ z579.1.toInt ≤ 59)) by omega), rσ610⟩ ?_
                      show ((wt_ga σ610 253 (Int32.toNatClampNeg x1)).toInt - (z538.2.2.1 + (1 : Int32)).toInt + 0).toNat < ((wt_ga z538.2.2.2 253 (Int32.toNatClampNeg x1)).toInt - z538.2.2.1.toInt + 0).toNat
                      exact wt_mu (by omega) (by omega)
                    · skip
                      have c620 := wt_nceq h608
                      unfold wp_md_least_B208
                      refine wt_T_gd (wt_ix (by omega) (by omega)) ?_
                      obtain ⟨σ621, eσ621⟩ : ∃ z : wt_St, z = wt_sa z538.2.2.2 317 (Int32.toNatClampNeg z538.2.2.1) z579.1 := ⟨_, rfl⟩
                      rw [← eσ621]
                      have fσ621 := wt_fr_sa eσ621
                      have vσ621 := wt_ceq (wt_v_sa eσ621)
                      have bb622 := wt_tn z538.2.2.1
                      have rσ621 := wt_RI_no l543 eσ621 317 318 (by decide) (by decide) (by decide)
                      have bb623 := wt_bd z538.1
                      obtain ⟨j624, j624a, j624b⟩ := wt_addI z538.2.2.1 (1 : Int32)
                      have bb625 := wt_bd (wt_ga σ621 253 (Int32.toNatClampNeg x1))
                      have g626 : 0 ≤ (wt_ga σ621 253 (Int32.toNatClampNeg x1)).toInt ∧ (wt_ga σ621 253 (Int32.toNatClampNeg x1)).toInt ≤ 12 := wt_R_ga rσ621 9 rfl 253 (by decide) (by decide) (Int32.toNatClampNeg x1)
                      have tt627 : (wt_ga σ621 253 (Int32.toNatClampNeg x1)).toInt = (wt_ga z538.2.2.2 253 (Int32.toNatClampNeg x1)).toInt := congrArg Int32.toInt (fσ621.2 253 (by (try dsimp only); omega) (Int32.toNatClampNeg x1))
                      refine hKK537 _ ⟨(wt_fr.tr (wt_fr.tr wt_fr.rf l540 (fun i k h => h.elim) (fun i h => by (try dsimp only at h); exact (by omega))) fσ621 (fun i k h => h.elim) (fun i h => by (try dsimp only at h); exact (by omega))), (wt_nn (B := wt_ga z538.2.2.2 253 (Int32.toNatClampNeg x1)) (by omega) (by omega)), (show (z579.1.toInt = -1 ∨ (0 ≤ z579.1.toInt ∧ z579.1.toInt ≤ 59)) by omega), rσ621⟩ ?_
                      show ((wt_ga σ621 253 (Int32.toNatClampNeg x1)).toInt - (z538.2.2.1 + (1 : Int32)).toInt + 0).toNat < ((wt_ga z538.2.2.2 253 (Int32.toNatClampNeg x1)).toInt - z538.2.2.1.toInt + 0).toNat
                      exact wt_mu (by omega) (by omega)
                · skip
                  have c628 := wt_ncle h602
                  refine wt_T_bi (wq_md_isOf n hn z579.2.1 x1 z538.2.2.1 z538.2.2.2 l543 (by omega) (by omega) (by omega) (by omega) (by omega) (by omega)) (fun r629 h630 => ?_)
                  have e631 := h630
                  have bb632 := wt_bd r629.1
                  rw [e631]
                  refine wt_T_if (fun h633 => ?_) (fun h633 => ?_)
                  · skip
                    have c634 := wt_ceq h633
                    unfold wp_md_least_B174
                    have bb635 := wt_bd z579.1
                    obtain ⟨j636, j636a, j636b⟩ := wt_addI z579.2.1 (1 : Int32)
                    refine hKK578 _ ⟨rfl, (wt_nn (B := wt_gf z579.2.2 108 28) (by omega) (by first | (rw [l581]; omega) | (rw [l581]; done) | omega)), (show (z579.1.toInt = -1 ∨ (0 ≤ z579.1.toInt ∧ z579.1.toInt ≤ 59)) by omega)⟩ ?_
                    show ((wt_gf z538.2.2.2 108 28).toInt - (z579.2.1 + (1 : Int32)).toInt + 0).toNat < ((wt_gf z579.2.2 108 28).toInt - z579.2.1.toInt + 0).toNat
                    exact wt_mu (by first | (rw [l581]; omega) | (rw [l581]; done) | omega) (by first | (rw [l581]; omega) | (rw [l581]; done) | omega)
                  · skip
                    have c637 := wt_nceq h633
                    refine wt_T_gd (wt_ix (by omega) (by omega)) ?_
                    refine wt_T_gd (wt_ix (by omega) (by omega)) ?_
                    have bb638 := wt_tn z538.2.2.1
                    have bb639 := wt_tn z579.2.1
                    have bb640 := wt_bd (wt_ga z538.2.2.2 (292 + (Int32.toNatClampNeg z538.2.2.1)) (Int32.toNatClampNeg z579.2.1))
                    have tt641 : (wt_ga z538.2.2.2 (292 + (Int32.toNatClampNeg z538.2.2.1)) (Int32.toNatClampNeg z579.2.1)).toInt = (wt_ga r533 (292 + (Int32.toNatClampNeg z538.2.2.1)) (Int32.toNatClampNeg z579.2.1)).toInt := congrArg Int32.toInt (l540.2 (292 + (Int32.toNatClampNeg z538.2.2.1)) (by (try dsimp only); omega) (Int32.toNatClampNeg z579.2.1))
                    have bb642 := wt_bd (wt_ga r533 (292 + (Int32.toNatClampNeg z538.2.2.1)) (Int32.toNatClampNeg z579.2.1))
                    refine wt_T_if (fun h643 => ?_) (fun h643 => ?_)
                    · skip
                      have c644 := wt_ceq h643
                      rw [wt_lm1] at c644
                      unfold wp_md_least_B174
                      have bb645 := wt_bd z579.1
                      obtain ⟨j646, j646a, j646b⟩ := wt_addI z579.2.1 (1 : Int32)
                      refine hKK578 _ ⟨rfl, (wt_nn (B := wt_gf z579.2.2 108 28) (by omega) (by first | (rw [l581]; omega) | (rw [l581]; done) | omega)), (show (z579.1.toInt = -1 ∨ (0 ≤ z579.1.toInt ∧ z579.1.toInt ≤ 59)) by omega)⟩ ?_
                      show ((wt_gf z538.2.2.2 108 28).toInt - (z579.2.1 + (1 : Int32)).toInt + 0).toNat < ((wt_gf z579.2.2 108 28).toInt - z579.2.1.toInt + 0).toNat
                      exact wt_mu (by first | (rw [l581]; omega) | (rw [l581]; done) | omega) (by first | (rw [l581]; omega) | (rw [l581]; done) | omega)
                    · skip
                      have c647 := wt_nceq h643
                      rw [wt_lm1] at c647
                      have bb648 := wt_bd z538.2.1
                      refine wt_T_if (fun h649 => ?_) (fun h649 => ?_)
                      · skip
                        have c650 := wt_ceq h649
                        rw [wt_lm1] at c650
                        unfold wp_md_least_B136
                        have bb651 := wt_bd z579.1
                        refine wt_T_if (fun h652 => ?_) (fun h652 => ?_)
                        · skip
                          have c653 := wt_ceq h652
                          rw [wt_lm1] at c653
                          unfold wp_md_least_B165
                          unfold wp_md_least_B172
                          unfold wp_md_least_B174
                          obtain ⟨j654, j654a, j654b⟩ := wt_addI z579.2.1 (1 : Int32)
                          refine hKK578 _ ⟨rfl, (wt_nn (B := wt_gf z579.2.2 108 28) (by omega) (by first | (rw [l581]; omega) | (rw [l581]; done) | omega)), (show (z579.2.1.toInt = -1 ∨ (0 ≤ z579.2.1.toInt ∧ z579.2.1.toInt ≤ 59)) by omega)⟩ ?_
                          show ((wt_gf z538.2.2.2 108 28).toInt - (z579.2.1 + (1 : Int32)).toInt + 0).toNat < ((wt_gf z579.2.2 108 28).toInt - z579.2.1.toInt + 0).toNat
                          exact wt_mu (by first | (rw [l581]; omega) | (rw [l581]; done) | omega) (by first | (rw [l581]; omega) | (rw [l581]; done) | omega)
                        · skip
                          have c655 := wt_nceq h652
                          rw [wt_lm1] at c655
                          refine wt_T_gd (wt_ix (by omega) (by omega)) ?_
                          refine wt_T_gd (wt_ix (by omega) (by omega)) ?_
                          refine wt_T_gd (wt_ix (by omega) (by omega)) ?_
                          refine wt_T_gd (wt_ix (by omega) (by omega)) ?_
                          have bb656 := wt_tn z579.1
                          have bb657 := wt_bd (wt_ga z538.2.2.2 (292 + (Int32.toNatClampNeg z538.2.2.1)) (Int32.toNatClampNeg z579.1))
                          have tt658 : (wt_ga z538.2.2.2 (292 + (Int32.toNatClampNeg z538.2.2.1)) (Int32.toNatClampNeg z579.1)).toInt = (wt_ga r533 (292 + (Int32.toNatClampNeg z538.2.2.1)) (Int32.toNatClampNeg z579.1)).toInt := congrArg Int32.toInt (l540.2 (292 + (Int32.toNatClampNeg z538.2.2.1)) (by (try dsimp only); omega) (Int32.toNatClampNeg z579.1))
                          have bb659 := wt_bd (wt_ga r533 (292 + (Int32.toNatClampNeg z538.2.2.1)) (Int32.toNatClampNeg z579.1))
                          refine wt_T_if (fun h660 => ?_) (fun h660 => ?_)
                          · skip
                            have c661 := wt_cle h660
                            unfold wp_md_least_B172
                            unfold wp_md_least_B174
                            obtain ⟨j662, j662a, j662b⟩ := wt_addI z579.2.1 (1 : Int32)
                            refine hKK578 _ ⟨rfl, (wt_nn (B := wt_gf z579.2.2 108 28) (by omega) (by first | (rw [l581]; omega) | (rw [l581]; done) | omega)), (show (z579.1.toInt = -1 ∨ (0 ≤ z579.1.toInt ∧ z579.1.toInt ≤ 59)) by omega)⟩ ?_
                            show ((wt_gf z538.2.2.2 108 28).toInt - (z579.2.1 + (1 : Int32)).toInt + 0).toNat < ((wt_gf z579.2.2 108 28).toInt - z579.2.1.toInt + 0).toNat
                            exact wt_mu (by first | (rw [l581]; omega) | (rw [l581]; done) | omega) (by first | (rw [l581]; omega) | (rw [l581]; done) | omega)
                          · skip
                            have c663 := wt_ncle h660
                            unfold wp_md_least_B165
                            unfold wp_md_least_B172
                            unfold wp_md_least_B174
                            obtain ⟨j664, j664a, j664b⟩ := wt_addI z579.2.1 (1 : Int32)
                            refine hKK578 _ ⟨rfl, (wt_nn (B := wt_gf z579.2.2 108 28) (by omega) (by first | (rw [l581]; omega) | (rw [l581]; done) | omega)), (show (z579.2.1.toInt = -1 ∨ (0 ≤ z579.2.1.toInt ∧ z579.2.1.toInt ≤ 59)) by omega)⟩ ?_
                            show ((wt_gf z538.2.2.2 108 28).toInt - (z579.2.1 + (1 : Int32)).toInt + 0).toNat < ((wt_gf z579.2.2 108 28).toInt - z579.2.1.toInt + 0).toNat
                            exact wt_mu (by first | (rw [l581]; omega) | (rw [l581]; done) | omega) (by first | (rw [l581]; omega) | (rw [l581]; done) | omega)
                      · skip
                        have c665 := wt_nceq h649
                        rw [wt_lm1] at c665
                        refine wt_T_bi (wq_md_mayFollow n hn z538.2.1 z579.2.1 z538.2.2.2 l543 (by omega) (by omega) (by omega) (by omega)) (fun r666 h667 => ?_)
                        have e668 := h667
                        have bb669 := wt_bd r666.1
                        rw [e668]
                        refine wt_T_if (fun h670 => ?_) (fun h670 => ?_)
                        · skip
                          have c671 := wt_ceq h670
                          unfold wp_md_least_B174
                          have bb672 := wt_bd z579.1
                          obtain ⟨j673, j673a, j673b⟩ := wt_addI z579.2.1 (1 : Int32)
                          refine hKK578 _ ⟨rfl, (wt_nn (B := wt_gf z579.2.2 108 28) (by omega) (by first | (rw [l581]; omega) | (rw [l581]; done) | omega)), (show (z579.1.toInt = -1 ∨ (0 ≤ z579.1.toInt ∧ z579.1.toInt ≤ 59)) by omega)⟩ ?_
                          show ((wt_gf z538.2.2.2 108 28).toInt - (z579.2.1 + (1 : Int32)).toInt + 0).toNat < ((wt_gf z579.2.2 108 28).toInt - z579.2.1.toInt + 0).toNat
                          exact wt_mu (by first | (rw [l581]; omega) | (rw [l581]; done) | omega) (by first | (rw [l581]; omega) | (rw [l581]; done) | omega)
                        · skip
                          have c674 := wt_nceq h670
                          unfold wp_md_least_B136
                          have bb675 := wt_bd z579.1
                          refine wt_T_if (fun h676 => ?_) (fun h676 => ?_)
                          · skip
                            have c677 := wt_ceq h676
                            rw [wt_lm1] at c677
                            unfold wp_md_least_B165
                            unfold wp_md_least_B172
                            unfold wp_md_least_B174
                            obtain ⟨j678, j678a, j678b⟩ := wt_addI z579.2.1 (1 : Int32)
                            refine hKK578 _ ⟨rfl, (wt_nn (B := wt_gf z579.2.2 108 28) (by omega) (by first | (rw [l581]; omega) | (rw [l581]; done) | omega)), (show (z579.2.1.toInt = -1 ∨ (0 ≤ z579.2.1.toInt ∧ z579.2.1.toInt ≤ 59)) by omega)⟩ ?_
                            show ((wt_gf z538.2.2.2 108 28).toInt - (z579.2.1 + (1 : Int32)).toInt + 0).toNat < ((wt_gf z579.2.2 108 28).toInt - z579.2.1.toInt + 0).toNat
                            exact wt_mu (by first | (rw [l581]; omega) | (rw [l581]; done) | omega) (by first | (rw [l581]; omega) | (rw [l581]; done) | omega)
                          · skip
                            have c679 := wt_nceq h676
                            rw [wt_lm1] at c679
                            refine wt_T_gd (wt_ix (by omega) (by omega)) ?_
                            refine wt_T_gd (wt_ix (by omega) (by omega)) ?_
                            refine wt_T_gd (wt_ix (by omega) (by omega)) ?_
                            refine wt_T_gd (wt_ix (by omega) (by omega)) ?_
                            have bb680 := wt_tn z579.1
                            have bb681 := wt_bd (wt_ga z538.2.2.2 (292 + (Int32.toNatClampNeg z538.2.2.1)) (Int32.toNatClampNeg z579.1))
                            have tt682 : (wt_ga z538.2.2.2 (292 + (Int32.toNatClampNeg z538.2.2.1)) (Int32.toNatClampNeg z579.1)).toInt = (wt_ga r533 (292 + (Int32.toNatClampNeg z538.2.2.1)) (Int32.toNatClampNeg z579.1)).toInt := congrArg Int32.toInt (l540.2 (292 + (Int32.toNatClampNeg z538.2.2.1)) (by (try dsimp only); omega) (Int32.toNatClampNeg z579.1))
                            have bb683 := wt_bd (wt_ga r533 (292 + (Int32.toNatClampNeg z538.2.2.1)) (Int32.toNatClampNeg z579.1))
                            refine wt_T_if (fun h684 => ?_) (fun h684 => ?_)
                            · skip
                              have c685 := wt_cle h684
                              unfold wp_md_least_B172
                              unfold wp_md_least_B174
                              obtain ⟨j686, j686a, j686b⟩ := wt_addI z579.2.1 (1 : Int32)
                              refine hKK578 _ ⟨rfl, (wt_nn (B := wt_gf z579.2.2 108 28) (by omega) (by first | (rw [l581]; omega) | (rw [l581]; done) | omega)), (show (z579.1.toInt = -1 ∨ (0 ≤ z579.1.toInt ∧ z579.1.toInt ≤ 59)) by omega)⟩ ?_
                              show ((wt_gf z538.2.2.2 108 28).toInt - (z579.2.1 + (1 : Int32)).toInt + 0).toNat < ((wt_gf z579.2.2 108 28).toInt - z579.2.1.toInt + 0).toNat
                              exact wt_mu (by first | (rw [l581]; omega) | (rw [l581]; done) | omega) (by first | (rw [l581]; omega) | (rw [l581]; done) | omega)
                            · skip
                              have c687 := wt_ncle h684
                              unfold wp_md_least_B165
                              unfold wp_md_least_B172
                              unfold wp_md_least_B174
                              obtain ⟨j688, j688a, j688b⟩ := wt_addI z579.2.1 (1 : Int32)
                              refine hKK578 _ ⟨rfl, (wt_nn (B := wt_gf z579.2.2 108 28) (by omega) (by first | (rw [l581]; omega) | (rw [l581]; done) | omega)), (show (z579.2.1.toInt = -1 ∨ (0 ≤ z579.2.1.toInt ∧ z579.2.1.toInt ≤ 59)) by omega)⟩ ?_
                              show ((wt_gf z538.2.2.2 108 28).toInt - (z579.2.1 + (1 : Int32)).toInt + 0).toNat < ((wt_gf z579.2.2 108 28).toInt - z579.2.1.toInt + 0).toNat
                              exact wt_mu (by first | (rw [l581]; omega) | (rw [l581]; done) | omega) (by first | (rw [l581]; omega) | (rw [l581]; done) | omega)
              · skip
                have bb689 := wt_bd (wt_gf z538.2.2.2 108 28)
                have g690 : 0 ≤ (wt_gf z538.2.2.2 108 28).toInt ∧ (wt_gf z538.2.2.2 108 28).toInt ≤ 60 := wt_R_gf l543 6 rfl
                have tt691 : (wt_gf z538.2.2.2 108 28).toInt = (wt_gf r533 108 28).toInt := congrArg Int32.toInt (l540.1 108 28 (fun z => z))
                have bb692 := wt_bd (wt_gf r533 108 28)
                have g693 : 0 ≤ (wt_gf r533 108 28).toInt ∧ (wt_gf r533 108 28).toInt ≤ 60 := wt_R_gf ri536 6 rfl
                have tt694 : (wt_gf r533 108 28).toInt = (wt_gf r524.2 108 28).toInt := congrArg Int32.toInt (f535.1 108 28 (fun z => z))
                have bb695 := wt_bd (wt_gf r524.2 108 28)
                have g696 : 0 ≤ (wt_gf r524.2 108 28).toInt ∧ (wt_gf r524.2 108 28).toInt ≤ 60 := wt_R_gf ri527 6 rfl
                have tt697 : (wt_gf r524.2 108 28).toInt = (wt_gf r506.2 108 28).toInt := congrArg Int32.toInt (f526.1 108 28 (by (try dsimp only); omega))
                have bb698 := wt_bd (wt_gf r506.2 108 28)
                have g699 : 0 ≤ (wt_gf r506.2 108 28).toInt ∧ (wt_gf r506.2 108 28).toInt ≤ 60 := wt_R_gf ri509 6 rfl
                have tt700 : (wt_gf r506.2 108 28).toInt = (wt_gf σ4 108 28).toInt := congrArg Int32.toInt (f508.1 108 28 (by (try dsimp only); omega))
                have bb701 := wt_bd (wt_gf σ4 108 28)
                have g702 : 0 ≤ (wt_gf σ4 108 28).toInt ∧ (wt_gf σ4 108 28).toInt ≤ 60 := wt_R_gf rσ4 6 rfl
                have tt703 : (wt_gf σ4 108 28).toInt = (wt_gf σ 108 28).toInt := congrArg Int32.toInt (fσ4.1 108 28 (by (try dsimp only); omega))
                have bb704 := wt_bd (wt_gf σ 108 28)
                have g705 : 0 ≤ (wt_gf σ 108 28).toInt ∧ (wt_gf σ 108 28).toInt ≤ 60 := wt_R_gf r0 6 rfl
                have k706 := wt_lm1
                exact ⟨rfl, (show 0 ≤ ((0 : Int32)).toInt by omega), (show ((-1 : Int32).toInt = -1 ∨ (0 ≤ (-1 : Int32).toInt ∧ (-1 : Int32).toInt ≤ 59)) by omega)⟩
              · skip
                have bb707 := wt_bd (wt_gf z538.2.2.2 108 28)
                have g708 : 0 ≤ (wt_gf z538.2.2.2 108 28).toInt ∧ (wt_gf z538.2.2.2 108 28).toInt ≤ 60 := wt_R_gf l543 6 rfl
                have tt709 : (wt_gf z538.2.2.2 108 28).toInt = (wt_gf r533 108 28).toInt := congrArg Int32.toInt (l540.1 108 28 (fun z => z))
                have bb710 := wt_bd (wt_gf r533 108 28)
                have g711 : 0 ≤ (wt_gf r533 108 28).toInt ∧ (wt_gf r533 108 28).toInt ≤ 60 := wt_R_gf ri536 6 rfl
                have tt712 : (wt_gf r533 108 28).toInt = (wt_gf r524.2 108 28).toInt := congrArg Int32.toInt (f535.1 108 28 (fun z => z))
                have bb713 := wt_bd (wt_gf r524.2 108 28)
                have g714 : 0 ≤ (wt_gf r524.2 108 28).toInt ∧ (wt_gf r524.2 108 28).toInt ≤ 60 := wt_R_gf ri527 6 rfl
                have tt715 : (wt_gf r524.2 108 28).toInt = (wt_gf r506.2 108 28).toInt := congrArg Int32.toInt (f526.1 108 28 (by (try dsimp only); omega))
                have bb716 := wt_bd (wt_gf r506.2 108 28)
                have g717 : 0 ≤ (wt_gf r506.2 108 28).toInt ∧ (wt_gf r506.2 108 28).toInt ≤ 60 := wt_R_gf ri509 6 rfl
                have tt718 : (wt_gf r506.2 108 28).toInt = (wt_gf σ4 108 28).toInt := congrArg Int32.toInt (f508.1 108 28 (by (try dsimp only); omega))
                have bb719 := wt_bd (wt_gf σ4 108 28)
                have g720 : 0 ≤ (wt_gf σ4 108 28).toInt ∧ (wt_gf σ4 108 28).toInt ≤ 60 := wt_R_gf rσ4 6 rfl
                have tt721 : (wt_gf σ4 108 28).toInt = (wt_gf σ 108 28).toInt := congrArg Int32.toInt (fσ4.1 108 28 (by (try dsimp only); omega))
                have bb722 := wt_bd (wt_gf σ 108 28)
                have g723 : 0 ≤ (wt_gf σ 108 28).toInt ∧ (wt_gf σ 108 28).toInt ≤ 60 := wt_R_gf r0 6 rfl
                show ((wt_gf z538.2.2.2 108 28).toInt - (0 : Int32).toInt + 0).toNat < n
                omega
          · skip
            have bb724 := wt_tn x1
            have bb725 := wt_bd (wt_ga r533 253 (Int32.toNatClampNeg x1))
            have g726 : 0 ≤ (wt_ga r533 253 (Int32.toNatClampNeg x1)).toInt ∧ (wt_ga r533 253 (Int32.toNatClampNeg x1)).toInt ≤ 12 := wt_R_ga ri536 9 rfl 253 (by decide) (by decide) (Int32.toNatClampNeg x1)
            have tt727 : (wt_ga r533 253 (Int32.toNatClampNeg x1)).toInt = (wt_ga r524.2 253 (Int32.toNatClampNeg x1)).toInt := congrArg Int32.toInt (f535.2 253 (by (try dsimp only); omega) (Int32.toNatClampNeg x1))
            have bb728 := wt_bd (wt_ga r524.2 253 (Int32.toNatClampNeg x1))
            have g729 : 0 ≤ (wt_ga r524.2 253 (Int32.toNatClampNeg x1)).toInt ∧ (wt_ga r524.2 253 (Int32.toNatClampNeg x1)).toInt ≤ 12 := wt_R_ga ri527 9 rfl 253 (by decide) (by decide) (Int32.toNatClampNeg x1)
            have tt730 : (wt_ga r524.2 253 (Int32.toNatClampNeg x1)).toInt = (wt_ga r506.2 253 (Int32.toNatClampNeg x1)).toInt := congrArg Int32.toInt (f526.2 253 (fun z => z) (Int32.toNatClampNeg x1))
            have bb731 := wt_bd (wt_ga r506.2 253 (Int32.toNatClampNeg x1))
            have g732 : 0 ≤ (wt_ga r506.2 253 (Int32.toNatClampNeg x1)).toInt ∧ (wt_ga r506.2 253 (Int32.toNatClampNeg x1)).toInt ≤ 12 := wt_R_ga ri509 9 rfl 253 (by decide) (by decide) (Int32.toNatClampNeg x1)
            have tt733 : (wt_ga r506.2 253 (Int32.toNatClampNeg x1)).toInt = (wt_ga σ4 253 (Int32.toNatClampNeg x1)).toInt := congrArg Int32.toInt (f508.2 253 (fun z => z) (Int32.toNatClampNeg x1))
            have bb734 := wt_bd (wt_ga σ4 253 (Int32.toNatClampNeg x1))
            have g735 : 0 ≤ (wt_ga σ4 253 (Int32.toNatClampNeg x1)).toInt ∧ (wt_ga σ4 253 (Int32.toNatClampNeg x1)).toInt ≤ 12 := wt_R_ga rσ4 9 rfl 253 (by decide) (by decide) (Int32.toNatClampNeg x1)
            have tt736 : (wt_ga σ4 253 (Int32.toNatClampNeg x1)).toInt = (wt_ga σ 253 (Int32.toNatClampNeg x1)).toInt := congrArg Int32.toInt (fσ4.2 253 (fun z => z) (Int32.toNatClampNeg x1))
            have bb737 := wt_bd (wt_ga σ 253 (Int32.toNatClampNeg x1))
            have g738 : 0 ≤ (wt_ga σ 253 (Int32.toNatClampNeg x1)).toInt ∧ (wt_ga σ 253 (Int32.toNatClampNeg x1)).toInt ≤ 12 := wt_R_ga r0 9 rfl 253 (by decide) (by decide) (Int32.toNatClampNeg x1)
            have k739 := wt_lm1
            exact ⟨wt_fr.rf, (show 0 ≤ ((0 : Int32)).toInt by omega), (show ((-1 : Int32).toInt = -1 ∨ (0 ≤ (-1 : Int32).toInt ∧ (-1 : Int32).toInt ≤ 59)) by omega), ri536⟩
          · skip
            have bb740 := wt_tn x1
            have bb741 := wt_bd (wt_ga r533 253 (Int32.toNatClampNeg x1))
            have g742 : 0 ≤ (wt_ga r533 253 (Int32.toNatClampNeg x1)).toInt ∧ (wt_ga r533 253 (Int32.toNatClampNeg x1)).toInt ≤ 12 := wt_R_ga ri536 9 rfl 253 (by decide) (by decide) (Int32.toNatClampNeg x1)
            have tt743 : (wt_ga r533 253 (Int32.toNatClampNeg x1)).toInt = (wt_ga r524.2 253 (Int32.toNatClampNeg x1)).toInt := congrArg Int32.toInt (f535.2 253 (by (try dsimp only); omega) (Int32.toNatClampNeg x1))
            have bb744 := wt_bd (wt_ga r524.2 253 (Int32.toNatClampNeg x1))
            have g745 : 0 ≤ (wt_ga r524.2 253 (Int32.toNatClampNeg x1)).toInt ∧ (wt_ga r524.2 253 (Int32.toNatClampNeg x1)).toInt ≤ 12 := wt_R_ga ri527 9 rfl 253 (by decide) (by decide) (Int32.toNatClampNeg x1)
            have tt746 : (wt_ga r524.2 253 (Int32.toNatClampNeg x1)).toInt = (wt_ga r506.2 253 (Int32.toNatClampNeg x1)).toInt := congrArg Int32.toInt (f526.2 253 (fun z => z) (Int32.toNatClampNeg x1))
            have bb747 := wt_bd (wt_ga r506.2 253 (Int32.toNatClampNeg x1))
            have g748 : 0 ≤ (wt_ga r506.2 253 (Int32.toNatClampNeg x1)).toInt ∧ (wt_ga r506.2 253 (Int32.toNatClampNeg x1)).toInt ≤ 12 := wt_R_ga ri509 9 rfl 253 (by decide) (by decide) (Int32.toNatClampNeg x1)
            have tt749 : (wt_ga r506.2 253 (Int32.toNatClampNeg x1)).toInt = (wt_ga σ4 253 (Int32.toNatClampNeg x1)).toInt := congrArg Int32.toInt (f508.2 253 (fun z => z) (Int32.toNatClampNeg x1))
            have bb750 := wt_bd (wt_ga σ4 253 (Int32.toNatClampNeg x1))
            have g751 : 0 ≤ (wt_ga σ4 253 (Int32.toNatClampNeg x1)).toInt ∧ (wt_ga σ4 253 (Int32.toNatClampNeg x1)).toInt ≤ 12 := wt_R_ga rσ4 9 rfl 253 (by decide) (by decide) (Int32.toNatClampNeg x1)
            have tt752 : (wt_ga σ4 253 (Int32.toNatClampNeg x1)).toInt = (wt_ga σ 253 (Int32.toNatClampNeg x1)).toInt := congrArg Int32.toInt (fσ4.2 253 (fun z => z) (Int32.toNatClampNeg x1))
            have bb753 := wt_bd (wt_ga σ 253 (Int32.toNatClampNeg x1))
            have g754 : 0 ≤ (wt_ga σ 253 (Int32.toNatClampNeg x1)).toInt ∧ (wt_ga σ 253 (Int32.toNatClampNeg x1)).toInt ≤ 12 := wt_R_ga r0 9 rfl 253 (by decide) (by decide) (Int32.toNatClampNeg x1)
            show ((wt_ga r533 253 (Int32.toNatClampNeg x1)).toInt - (0 : Int32).toInt + 0).toNat < n
            omega
        · skip
          have c755 := wt_nceq h531
          refine wt_T_some ?_
          exact ⟨(wt_fr.tr (wt_fr.tr (wt_fr.tr wt_fr.rf fσ4 (fun i k h => by (try dsimp only at h); exact (by omega)) (fun i h => h.elim)) f508 (fun i k h => by (try dsimp only at h); exact (by omega)) (fun i h => h.elim)) f526 (fun i k h => by (try dsimp only at h); exact (by omega)) (fun i h => h.elim)), ri527⟩
      · skip
        have c756 := wt_nceq h521
        unfold wp_md_least_B41
        have k757 : (2 : Int32).toInt = 2 := by decide
        refine wt_T_bi (wq_md_bad n hn (0 : Int32) (2 : Int32) r506.2 ri509 (by omega)) (fun r758 h759 => ?_)
        obtain ⟨f760, ri761, pp762⟩ := h759
        have bb763 := wt_bd r758.1
        have bb764 := wt_bd (wt_gf r758.2 108 0)
        refine wt_T_if (fun h765 => ?_) (fun h765 => ?_)
        · skip
          have c766 := wt_ceq h765
          refine wt_T_bi (wq_md_laysRests n hn x1 r758.2 ri761 (by omega) (by omega)) (fun r767 h768 => ?_)
          obtain ⟨f769, ri770⟩ := h768
          refine wt_T_it (fun s : Int32 × Int32 × Int32 × wt_St => wt_fr (fun i k => False) (fun i => i = 317) r767 s.2.2.2 ∧ 0 ≤ (s.2.2.1).toInt ∧ (s.2.1.toInt = -1 ∨ (0 ≤ s.2.1.toInt ∧ s.2.1.toInt ≤ 59)) ∧ wt_RI s.2.2.2) (fun s : Int32 × Int32 × Int32 × wt_St => ((wt_ga s.2.2.2 253 (Int32.toNatClampNeg x1)).toInt - s.2.2.1.toInt + 0).toNat) (fun KK771 z772 I773 hKK771 => ?_) _ _ ?_ ?_
          · skip
            obtain ⟨l774, l775, l776, l777⟩ := I773
            unfold wp_md_least_B64
            have bb778 := wt_tn x1
            have bb779 := wt_bd (wt_ga z772.2.2.2 253 (Int32.toNatClampNeg x1))
            have g780 : 0 ≤ (wt_ga z772.2.2.2 253 (Int32.toNatClampNeg x1)).toInt ∧ (wt_ga z772.2.2.2 253 (Int32.toNatClampNeg x1)).toInt ≤ 12 := wt_R_ga l777 9 rfl 253 (by decide) (by decide) (Int32.toNatClampNeg x1)
            have tt781 : (wt_ga z772.2.2.2 253 (Int32.toNatClampNeg x1)).toInt = (wt_ga r767 253 (Int32.toNatClampNeg x1)).toInt := congrArg Int32.toInt (l774.2 253 (by (try dsimp only); omega) (Int32.toNatClampNeg x1))
            have bb782 := wt_bd (wt_ga r767 253 (Int32.toNatClampNeg x1))
            have g783 : 0 ≤ (wt_ga r767 253 (Int32.toNatClampNeg x1)).toInt ∧ (wt_ga r767 253 (Int32.toNatClampNeg x1)).toInt ≤ 12 := wt_R_ga ri770 9 rfl 253 (by decide) (by decide) (Int32.toNatClampNeg x1)
            have tt784 : (wt_ga r767 253 (Int32.toNatClampNeg x1)).toInt = (wt_ga r758.2 253 (Int32.toNatClampNeg x1)).toInt := congrArg Int32.toInt (f769.2 253 (by (try dsimp only); omega) (Int32.toNatClampNeg x1))
            have bb785 := wt_bd (wt_ga r758.2 253 (Int32.toNatClampNeg x1))
            have g786 : 0 ≤ (wt_ga r758.2 253 (Int32.toNatClampNeg x1)).toInt ∧ (wt_ga r758.2 253 (Int32.toNatClampNeg x1)).toInt ≤ 12 := wt_R_ga ri761 9 rfl 253 (by decide) (by decide) (Int32.toNatClampNeg x1)
            have tt787 : (wt_ga r758.2 253 (Int32.toNatClampNeg x1)).toInt = (wt_ga r506.2 253 (Int32.toNatClampNeg x1)).toInt := congrArg Int32.toInt (f760.2 253 (fun z => z) (Int32.toNatClampNeg x1))
            have bb788 := wt_bd (wt_ga r506.2 253 (Int32.toNatClampNeg x1))
            have g789 : 0 ≤ (wt_ga r506.2 253 (Int32.toNatClampNeg x1)).toInt ∧ (wt_ga r506.2 253 (Int32.toNatClampNeg x1)).toInt ≤ 12 := wt_R_ga ri509 9 rfl 253 (by decide) (by decide) (Int32.toNatClampNeg x1)
            have tt790 : (wt_ga r506.2 253 (Int32.toNatClampNeg x1)).toInt = (wt_ga σ4 253 (Int32.toNatClampNeg x1)).toInt := congrArg Int32.toInt (f508.2 253 (fun z => z) (Int32.toNatClampNeg x1))
            have bb791 := wt_bd (wt_ga σ4 253 (Int32.toNatClampNeg x1))
            have g792 : 0 ≤ (wt_ga σ4 253 (Int32.toNatClampNeg x1)).toInt ∧ (wt_ga σ4 253 (Int32.toNatClampNeg x1)).toInt ≤ 12 := wt_R_ga rσ4 9 rfl 253 (by decide) (by decide) (Int32.toNatClampNeg x1)
            have tt793 : (wt_ga σ4 253 (Int32.toNatClampNeg x1)).toInt = (wt_ga σ 253 (Int32.toNatClampNeg x1)).toInt := congrArg Int32.toInt (fσ4.2 253 (fun z => z) (Int32.toNatClampNeg x1))
            have bb794 := wt_bd (wt_ga σ 253 (Int32.toNatClampNeg x1))
            have g795 : 0 ≤ (wt_ga σ 253 (Int32.toNatClampNeg x1)).toInt ∧ (wt_ga σ 253 (Int32.toNatClampNeg x1)).toInt ≤ 12 := wt_R_ga r0 9 rfl 253 (by decide) (by decide) (Int32.toNatClampNeg x1)
            have bb796 := wt_bd z772.2.2.1
            refine wt_T_gd (wt_ix (by omega) (by omega)) ?_
            refine wt_T_if (fun h797 => ?_) (fun h797 => ?_)
            · skip
              have c798 := wt_cle h797
              refine wt_T_if (fun h799 => ?_) (fun h799 => ?_)
              · skip
                have c800 := wt_ceq h799
                refine wt_T_some ?_
                exact ⟨(wt_fr.tr (wt_fr.tr (wt_fr.tr (wt_fr.tr (wt_fr.tr wt_fr.rf fσ4 (fun i k h => by (try dsimp only at h); exact (by omega)) (fun i h => h.elim)) f508 (fun i k h => by (try dsimp only at h); exact (by omega)) (fun i h => h.elim)) f760 (fun i k h => by (try dsimp only at h); exact (by omega)) (fun i h => h.elim)) f769 (fun i k h => h.elim) (fun i h => by (try dsimp only at h); rcases h with h | h; exact Or.inl (by omega); exact Or.inr (Or.inl (by omega)))) l774 (fun i k h => h.elim) (fun i h => by (try dsimp only at h); exact Or.inr (Or.inr ((by omega))))), l777⟩
              · skip
                have c801 := wt_nceq h799
                refine wt_T_gd (wt_ix (by omega) (by omega)) ?_
                obtain ⟨j802, j802a, j802b⟩ := wt_subI (wt_ga z772.2.2.2 253 (Int32.toNatClampNeg x1)) (1 : Int32)
                refine wt_T_bi (wq_md_in n hn x2 (0 : Int32) ((wt_ga z772.2.2.2 253 (Int32.toNatClampNeg x1)) - (1 : Int32)) z772.2.2.2 l777) (fun r803 h804 => ?_)
                obtain ⟨e805, pp806⟩ := h804
                have bb807 := wt_bd r803.1
                rw [e805]
                refine wt_T_if (fun h808 => ?_) (fun h808 => ?_)
                · skip
                  have c809 := wt_ceq h808
                  refine wt_T_some ?_
                  exact ⟨(wt_fr.tr (wt_fr.tr (wt_fr.tr (wt_fr.tr (wt_fr.tr wt_fr.rf fσ4 (fun i k h => by (try dsimp only at h); exact (by omega)) (fun i h => h.elim)) f508 (fun i k h => by (try dsimp only at h); exact (by omega)) (fun i h => h.elim)) f760 (fun i k h => by (try dsimp only at h); exact (by omega)) (fun i h => h.elim)) f769 (fun i k h => h.elim) (fun i h => by (try dsimp only at h); rcases h with h | h; exact Or.inl (by omega); exact Or.inr (Or.inl (by omega)))) l774 (fun i k h => h.elim) (fun i h => by (try dsimp only at h); exact Or.inr (Or.inr ((by omega))))), l777⟩
                · skip
                  have c810 := wt_nceq h808
                  refine wt_T_gd (wt_ix (by omega) (by omega)) ?_
                  refine wt_T_some ?_
                  exact ⟨(wt_fr.tr (wt_fr.tr (wt_fr.tr (wt_fr.tr (wt_fr.tr wt_fr.rf fσ4 (fun i k h => by (try dsimp only at h); exact (by omega)) (fun i h => h.elim)) f508 (fun i k h => by (try dsimp only at h); exact (by omega)) (fun i h => h.elim)) f760 (fun i k h => by (try dsimp only at h); exact (by omega)) (fun i h => h.elim)) f769 (fun i k h => h.elim) (fun i h => by (try dsimp only at h); rcases h with h | h; exact Or.inl (by omega); exact Or.inr (Or.inl (by omega)))) l774 (fun i k h => h.elim) (fun i h => by (try dsimp only at h); exact Or.inr (Or.inr ((by omega))))), l777⟩
            · skip
              have c811 := wt_ncle h797
              refine wt_T_it (fun s : Int32 × Int32 × wt_St => s.2.2 = z772.2.2.2 ∧ 0 ≤ (s.2.1).toInt ∧ (s.1.toInt = -1 ∨ (0 ≤ s.1.toInt ∧ s.1.toInt ≤ 59))) (fun s : Int32 × Int32 × wt_St => ((wt_gf s.2.2 108 28).toInt - s.2.1.toInt + 0).toNat) (fun KK812 z813 I814 hKK812 => ?_) _ _ ?_ ?_
              · skip
                obtain ⟨l815, l816, l817⟩ := I814
                unfold wp_md_least_B81
                rw [l815]
                have bb818 := wt_bd (wt_gf z772.2.2.2 108 28)
                have g819 : 0 ≤ (wt_gf z772.2.2.2 108 28).toInt ∧ (wt_gf z772.2.2.2 108 28).toInt ≤ 60 := wt_R_gf l777 6 rfl
                have tt820 : (wt_gf z772.2.2.2 108 28).toInt = (wt_gf r767 108 28).toInt := congrArg Int32.toInt (l774.1 108 28 (fun z => z))
                have bb821 := wt_bd (wt_gf r767 108 28)
                have g822 : 0 ≤ (wt_gf r767 108 28).toInt ∧ (wt_gf r767 108 28).toInt ≤ 60 := wt_R_gf ri770 6 rfl
                have tt823 : (wt_gf r767 108 28).toInt = (wt_gf r758.2 108 28).toInt := congrArg Int32.toInt (f769.1 108 28 (fun z => z))
                have bb824 := wt_bd (wt_gf r758.2 108 28)
                have g825 : 0 ≤ (wt_gf r758.2 108 28).toInt ∧ (wt_gf r758.2 108 28).toInt ≤ 60 := wt_R_gf ri761 6 rfl
                have tt826 : (wt_gf r758.2 108 28).toInt = (wt_gf r506.2 108 28).toInt := congrArg Int32.toInt (f760.1 108 28 (by (try dsimp only); omega))
                have bb827 := wt_bd (wt_gf r506.2 108 28)
                have g828 : 0 ≤ (wt_gf r506.2 108 28).toInt ∧ (wt_gf r506.2 108 28).toInt ≤ 60 := wt_R_gf ri509 6 rfl
                have tt829 : (wt_gf r506.2 108 28).toInt = (wt_gf σ4 108 28).toInt := congrArg Int32.toInt (f508.1 108 28 (by (try dsimp only); omega))
                have bb830 := wt_bd (wt_gf σ4 108 28)
                have g831 : 0 ≤ (wt_gf σ4 108 28).toInt ∧ (wt_gf σ4 108 28).toInt ≤ 60 := wt_R_gf rσ4 6 rfl
                have tt832 : (wt_gf σ4 108 28).toInt = (wt_gf σ 108 28).toInt := congrArg Int32.toInt (fσ4.1 108 28 (by (try dsimp only); omega))
                have bb833 := wt_bd (wt_gf σ 108 28)
                have g834 : 0 ≤ (wt_gf σ 108 28).toInt ∧ (wt_gf σ 108 28).toInt ≤ 60 := wt_R_gf r0 6 rfl
                have bb835 := wt_bd z813.2.1
                refine wt_T_if (fun h836 => ?_) (fun h836 => ?_)
                · skip
                  have c837 := wt_cle h836
                  have bb838 := wt_bd z813.1
                  refine wt_T_if (fun h839 => ?_) (fun h839 => ?_)
                  · skip
                    have c840 := wt_ceq h839
                    rw [wt_lm1] at c840
                    refine wt_T_some ?_
                    exact ⟨(wt_fr.tr (wt_fr.tr (wt_fr.tr (wt_fr.tr (wt_fr.tr wt_fr.rf fσ4 (fun i k h => by (try dsimp only at h); exact (by omega)) (fun i h => h.elim)) f508 (fun i k h => by (try dsimp only at h); exact (by omega)) (fun i h => h.elim)) f760 (fun i k h => by (try dsimp only at h); exact (by omega)) (fun i h => h.elim)) f769 (fun i k h => h.elim) (fun i h => by (try dsimp only at h); rcases h with h | h; exact Or.inl (by omega); exact Or.inr (Or.inl (by omega)))) l774 (fun i k h => h.elim) (fun i h => by (try dsimp only at h); exact Or.inr (Or.inr ((by omega))))), l777⟩
                  · skip
                    have c841 := wt_nceq h839
                    rw [wt_lm1] at c841
                    refine wt_T_if (fun h842 => ?_) (fun h842 => ?_)
                    · skip
                      have c843 := wt_ceq h842
                      refine wt_T_gd (wt_ix (by omega) (by omega)) ?_
                      refine wt_T_gd (wt_ix (by omega) (by omega)) ?_
                      unfold wp_md_least_B208
                      refine wt_T_gd (wt_ix (by omega) (by omega)) ?_
                      obtain ⟨σ844, eσ844⟩ : ∃ z : wt_St, z = wt_sa z772.2.2.2 317 (Int32.toNatClampNeg z772.2.2.1) z813.1 := ⟨_, rfl⟩
                      rw [← eσ844]
                      have fσ844 := wt_fr_sa eσ844
                      have vσ844 := wt_ceq (wt_v_sa eσ844)
                      have bb845 := wt_tn z772.2.2.1
                      have rσ844 := wt_RI_no l777 eσ844 317 318 (by decide) (by decide) (by decide)
                      have bb846 := wt_tn z813.1
                      have bb847 := wt_bd (wt_ga z772.2.2.2 (292 + (Int32.toNatClampNeg z772.2.2.1)) (Int32.toNatClampNeg z813.1))
                      have tt848 : (wt_ga z772.2.2.2 (292 + (Int32.toNatClampNeg z772.2.2.1)) (Int32.toNatClampNeg z813.1)).toInt = (wt_ga r767 (292 + (Int32.toNatClampNeg z772.2.2.1)) (Int32.toNatClampNeg z813.1)).toInt := congrArg Int32.toInt (l774.2 (292 + (Int32.toNatClampNeg z772.2.2.1)) (by (try dsimp only); omega) (Int32.toNatClampNeg z813.1))
                      have bb849 := wt_bd (wt_ga r767 (292 + (Int32.toNatClampNeg z772.2.2.1)) (Int32.toNatClampNeg z813.1))
                      obtain ⟨j850, j850a, j850b⟩ := wt_addI z772.2.2.1 (1 : Int32)
                      have bb851 := wt_bd (wt_ga σ844 253 (Int32.toNatClampNeg x1))
                      have g852 : 0 ≤ (wt_ga σ844 253 (Int32.toNatClampNeg x1)).toInt ∧ (wt_ga σ844 253 (Int32.toNatClampNeg x1)).toInt ≤ 12 := wt_R_ga rσ844 9 rfl 253 (by decide) (by decide) (Int32.toNatClampNeg x1)
                      have tt853 : (wt_ga σ844 253 (Int32.toNatClampNeg x1)).toInt = (wt_ga z772.2.2.2 253 (Int32.toNatClampNeg x1)).toInt := congrArg Int32.toInt (fσ844.2 253 (by (try dsimp only); omega) (Int32.toNatClampNeg x1))
                      refine hKK771 _ ⟨(wt_fr.tr (wt_fr.tr wt_fr.rf l774 (fun i k h => h.elim) (fun i h => by (try dsimp only at h); exact (by omega))) fσ844 (fun i k h => h.elim) (fun i h => by (try dsimp only at h); exact (by omega))), (wt_nn (B := wt_ga z772.2.2.2 253 (Int32.toNatClampNeg x1)) (by omega) (by omega)), (show (z813.1.toInt = -1 ∨ (0 ≤ z813.1.toInt ∧ z813.1.toInt ≤ 59)) by omega), rσ844⟩ ?_
                      show ((wt_ga σ844 253 (Int32.toNatClampNeg x1)).toInt - (z772.2.2.1 + (1 : Int32)).toInt + 0).toNat < ((wt_ga z772.2.2.2 253 (Int32.toNatClampNeg x1)).toInt - z772.2.2.1.toInt + 0).toNat
                      exact wt_mu (by omega) (by omega)
                    · skip
                      have c854 := wt_nceq h842
                      unfold wp_md_least_B208
                      refine wt_T_gd (wt_ix (by omega) (by omega)) ?_
                      obtain ⟨σ855, eσ855⟩ : ∃ z : wt_St, z = wt_sa z772.2.2.2 317 (Int32.toNatClampNeg z772.2.2.1) z813.1 := ⟨_, rfl⟩
                      rw [← eσ855]
                      have fσ855 := wt_fr_sa eσ855
                      have vσ855 := wt_ceq (wt_v_sa eσ855)
                      have bb856 := wt_tn z772.2.2.1
                      have rσ855 := wt_RI_no l777 eσ855 317 318 (by decide) (by decide) (by decide)
                      have bb857 := wt_bd z772.1
                      obtain ⟨j858, j858a, j858b⟩ := wt_addI z772.2.2.1 (1 : Int32)
                      have bb859 := wt_bd (wt_ga σ855 253 (Int32.toNatClampNeg x1))
                      have g860 : 0 ≤ (wt_ga σ855 253 (Int32.toNatClampNeg x1)).toInt ∧ (wt_ga σ855 253 (Int32.toNatClampNeg x1)).toInt ≤ 12 := wt_R_ga rσ855 9 rfl 253 (by decide) (by decide) (Int32.toNatClampNeg x1)
                      have tt861 : (wt_ga σ855 253 (Int32.toNatClampNeg x1)).toInt = (wt_ga z772.2.2.2 253 (Int32.toNatClampNeg x1)).toInt := congrArg Int32.toInt (fσ855.2 253 (by (try dsimp only); omega) (Int32.toNatClampNeg x1))
                      refine hKK771 _ ⟨(wt_fr.tr (wt_fr.tr wt_fr.rf l774 (fun i k h => h.elim) (fun i h => by (try dsimp only at h); exact (by omega))) fσ855 (fun i k h => h.elim) (fun i h => by (try dsimp only at h); exact (by omega))), (wt_nn (B := wt_ga z772.2.2.2 253 (Int32.toNatClampNeg x1)) (by omega) (by omega)), (show (z813.1.toInt = -1 ∨ (0 ≤ z813.1.toInt ∧ z813.1.toInt ≤ 59)) by omega), rσ855⟩ ?_
                      show ((wt_ga σ855 253 (Int32.toNatClampNeg x1)).toInt - (z772.2.2.1 + (1 : Int32)).toInt + 0).toNat < ((wt_ga z772.2.2.2 253 (Int32.toNatClampNeg x1)).toInt - z772.2.2.1.toInt + 0).toNat
                      exact wt_mu (by omega) (by omega)
                · skip
                  have c862 := wt_ncle h836
                  refine wt_T_bi (wq_md_isOf n hn z813.2.1 x1 z772.2.2.1 z772.2.2.2 l777 (by omega) (by omega) (by omega) (by omega) (by omega) (by omega)) (fun r863 h864 => ?_)
                  have e865 := h864
                  have bb866 := wt_bd r863.1
                  rw [e865]
                  refine wt_T_if (fun h867 => ?_) (fun h867 => ?_)
                  · skip
                    have c868 := wt_ceq h867
                    unfold wp_md_least_B174
                    have bb869 := wt_bd z813.1
                    obtain ⟨j870, j870a, j870b⟩ := wt_addI z813.2.1 (1 : Int32)
                    refine hKK812 _ ⟨rfl, (wt_nn (B := wt_gf z813.2.2 108 28) (by omega) (by first | (rw [l815]; omega) | (rw [l815]; done) | omega)), (show (z813.1.toInt = -1 ∨ (0 ≤ z813.1.toInt ∧ z813.1.toInt ≤ 59)) by omega)⟩ ?_
                    show ((wt_gf z772.2.2.2 108 28).toInt - (z813.2.1 + (1 : Int32)).toInt + 0).toNat < ((wt_gf z813.2.2 108 28).toInt - z813.2.1.toInt + 0).toNat
                    exact wt_mu (by first | (rw [l815]; omega) | (rw [l815]; done) | omega) (by first | (rw [l815]; omega) | (rw [l815]; done) | omega)
                  · skip
                    have c871 := wt_nceq h867
                    refine wt_T_gd (wt_ix (by omega) (by omega)) ?_
                    refine wt_T_gd (wt_ix (by omega) (by omega)) ?_
                    have bb872 := wt_tn z772.2.2.1
                    have bb873 := wt_tn z813.2.1
                    have bb874 := wt_bd (wt_ga z772.2.2.2 (292 + (Int32.toNatClampNeg z772.2.2.1)) (Int32.toNatClampNeg z813.2.1))
                    have tt875 : (wt_ga z772.2.2.2 (292 + (Int32.toNatClampNeg z772.2.2.1)) (Int32.toNatClampNeg z813.2.1)).toInt = (wt_ga r767 (292 + (Int32.toNatClampNeg z772.2.2.1)) (Int32.toNatClampNeg z813.2.1)).toInt := congrArg Int32.toInt (l774.2 (292 + (Int32.toNatClampNeg z772.2.2.1)) (by (try dsimp only); omega) (Int32.toNatClampNeg z813.2.1))
                    have bb876 := wt_bd (wt_ga r767 (292 + (Int32.toNatClampNeg z772.2.2.1)) (Int32.toNatClampNeg z813.2.1))
                    refine wt_T_if (fun h877 => ?_) (fun h877 => ?_)
                    · skip
                      have c878 := wt_ceq h877
                      rw [wt_lm1] at c878
                      unfold wp_md_least_B174
                      have bb879 := wt_bd z813.1
                      obtain ⟨j880, j880a, j880b⟩ := wt_addI z813.2.1 (1 : Int32)
                      refine hKK812 _ ⟨rfl, (wt_nn (B := wt_gf z813.2.2 108 28) (by omega) (by first | (rw [l815]; omega) | (rw [l815]; done) | omega)), (show (z813.1.toInt = -1 ∨ (0 ≤ z813.1.toInt ∧ z813.1.toInt ≤ 59)) by omega)⟩ ?_
                      show ((wt_gf z772.2.2.2 108 28).toInt - (z813.2.1 + (1 : Int32)).toInt + 0).toNat < ((wt_gf z813.2.2 108 28).toInt - z813.2.1.toInt + 0).toNat
                      exact wt_mu (by first | (rw [l815]; omega) | (rw [l815]; done) | omega) (by first | (rw [l815]; omega) | (rw [l815]; done) | omega)
                    · skip
                      have c881 := wt_nceq h877
                      rw [wt_lm1] at c881
                      have bb882 := wt_bd z772.2.1
                      refine wt_T_if (fun h883 => ?_) (fun h883 => ?_)
                      · skip
                        have c884 := wt_ceq h883
                        rw [wt_lm1] at c884
                        unfold wp_md_least_B136
                        have bb885 := wt_bd z813.1
                        refine wt_T_if (fun h886 => ?_) (fun h886 => ?_)
                        · skip
                          have c887 := wt_ceq h886
                          rw [wt_lm1] at c887
                          unfold wp_md_least_B165
                          unfold wp_md_least_B172
                          unfold wp_md_least_B174
                          obtain ⟨j888, j888a, j888b⟩ := wt_addI z813.2.1 (1 : Int32)
                          refine hKK812 _ ⟨rfl, (wt_nn (B := wt_gf z813.2.2 108 28) (by omega) (by first | (rw [l815]; omega) | (rw [l815]; done) | omega)), (show (z813.2.1.toInt = -1 ∨ (0 ≤ z813.2.1.toInt ∧ z813.2.1.toInt ≤ 59)) by omega)⟩ ?_
                          show ((wt_gf z772.2.2.2 108 28).toInt - (z813.2.1 + (1 : Int32)).toInt + 0).toNat < ((wt_gf z813.2.2 108 28).toInt - z813.2.1.toInt + 0).toNat
                          exact wt_mu (by first | (rw [l815]; omega) | (rw [l815]; done) | omega) (by first | (rw [l815]; omega) | (rw [l815]; done) | omega)
                        · skip
                          have c889 := wt_nceq h886
                          rw [wt_lm1] at c889
                          refine wt_T_gd (wt_ix (by omega) (by omega)) ?_
                          refine wt_T_gd (wt_ix (by omega) (by omega)) ?_
                          refine wt_T_gd (wt_ix (by omega) (by omega)) ?_
                          refine wt_T_gd (wt_ix (by omega) (by omega)) ?_
                          have bb890 := wt_tn z813.1
                          have bb891 := wt_bd (wt_ga z772.2.2.2 (292 + (Int32.toNatClampNeg z772.2.2.1)) (Int32.toNatClampNeg z813.1))
                          have tt892 : (wt_ga z772.2.2.2 (292 + (Int32.toNatClampNeg z772.2.2.1)) (Int32.toNatClampNeg z813.1)).toInt = (wt_ga r767 (292 + (Int32.toNatClampNeg z772.2.2.1)) (Int32.toNatClampNeg z813.1)).toInt := congrArg Int32.toInt (l774.2 (292 + (Int32.toNatClampNeg z772.2.2.1)) (by (try dsimp only); omega) (Int32.toNatClampNeg z813.1))
                          have bb893 := wt_bd (wt_ga r767 (292 + (Int32.toNatClampNeg z772.2.2.1)) (Int32.toNatClampNeg z813.1))
                          refine wt_T_if (fun h894 => ?_) (fun h894 => ?_)
                          · skip
                            have c895 := wt_cle h894
                            unfold wp_md_least_B172
                            unfold wp_md_least_B174
                            obtain ⟨j896, j896a, j896b⟩ := wt_addI z813.2.1 (1 : Int32)
                            refine hKK812 _ ⟨rfl, (wt_nn (B := wt_gf z813.2.2 108 28) (by omega) (by first | (rw [l815]; omega) | (rw [l815]; done) | omega)), (show (z813.1.toInt = -1 ∨ (0 ≤ z813.1.toInt ∧ z813.1.toInt ≤ 59)) by omega)⟩ ?_
                            show ((wt_gf z772.2.2.2 108 28).toInt - (z813.2.1 + (1 : Int32)).toInt + 0).toNat < ((wt_gf z813.2.2 108 28).toInt - z813.2.1.toInt + 0).toNat
                            exact wt_mu (by first | (rw [l815]; omega) | (rw [l815]; done) | omega) (by first | (rw [l815]; omega) | (rw [l815]; done) | omega)
                          · skip
                            have c897 := wt_ncle h894
                            unfold wp_md_least_B165
                            unfold wp_md_least_B172
                            unfold wp_md_least_B174
                            obtain ⟨j898, j898a, j898b⟩ := wt_addI z813.2.1 (1 : Int32)
                            refine hKK812 _ ⟨rfl, (wt_nn (B := wt_gf z813.2.2 108 28) (by omega) (by first | (rw [l815]; omega) | (rw [l815]; done) | omega)), (show (z813.2.1.toInt = -1 ∨ (0 ≤ z813.2.1.toInt ∧ z813.2.1.toInt ≤ 59)) by omega)⟩ ?_
                            show ((wt_gf z772.2.2.2 108 28).toInt - (z813.2.1 + (1 : Int32)).toInt + 0).toNat < ((wt_gf z813.2.2 108 28).toInt - z813.2.1.toInt + 0).toNat
                            exact wt_mu (by first | (rw [l815]; omega) | (rw [l815]; done) | omega) (by first | (rw [l815]; omega) | (rw [l815]; done) | omega)
                      · skip
                        have c899 := wt_nceq h883
                        rw [wt_lm1] at c899
                        refine wt_T_bi (wq_md_mayFollow n hn z772.2.1 z813.2.1 z772.2.2.2 l777 (by omega) (by omega) (by omega) (by omega)) (fun r900 h901 => ?_)
                        have e902 := h901
                        have bb903 := wt_bd r900.1
                        rw [e902]
                        refine wt_T_if (fun h904 => ?_) (fun h904 => ?_)
                        · skip
                          have c905 := wt_ceq h904
                          unfold wp_md_least_B174
                          have bb906 := wt_bd z813.1
                          obtain ⟨j907, j907a, j907b⟩ := wt_addI z813.2.1 (1 : Int32)
                          refine hKK812 _ ⟨rfl, (wt_nn (B := wt_gf z813.2.2 108 28) (by omega) (by first | (rw [l815]; omega) | (rw [l815]; done) | omega)), (show (z813.1.toInt = -1 ∨ (0 ≤ z813.1.toInt ∧ z813.1.toInt ≤ 59)) by omega)⟩ ?_
                          show ((wt_gf z772.2.2.2 108 28).toInt - (z813.2.1 + (1 : Int32)).toInt + 0).toNat < ((wt_gf z813.2.2 108 28).toInt - z813.2.1.toInt + 0).toNat
                          exact wt_mu (by first | (rw [l815]; omega) | (rw [l815]; done) | omega) (by first | (rw [l815]; omega) | (rw [l815]; done) | omega)
                        · skip
                          have c908 := wt_nceq h904
                          unfold wp_md_least_B136
                          have bb909 := wt_bd z813.1
                          refine wt_T_if (fun h910 => ?_) (fun h910 => ?_)
                          · skip
                            have c911 := wt_ceq h910
                            rw [wt_lm1] at c911
                            unfold wp_md_least_B165
                            unfold wp_md_least_B172
                            unfold wp_md_least_B174
                            obtain ⟨j912, j912a, j912b⟩ := wt_addI z813.2.1 (1 : Int32)
                            refine hKK812 _ ⟨rfl, (wt_nn (B := wt_gf z813.2.2 108 28) (by omega) (by first | (rw [l815]; omega) | (rw [l815]; done) | omega)), (show (z813.2.1.toInt = -1 ∨ (0 ≤ z813.2.1.toInt ∧ z813.2.1.toInt ≤ 59)) by omega)⟩ ?_
                            show ((wt_gf z772.2.2.2 108 28).toInt - (z813.2.1 + (1 : Int32)).toInt + 0).toNat < ((wt_gf z813.2.2 108 28).toInt - z813.2.1.toInt + 0).toNat
                            exact wt_mu (by first | (rw [l815]; omega) | (rw [l815]; done) | omega) (by first | (rw [l815]; omega) | (rw [l815]; done) | omega)
                          · skip
                            have c913 := wt_nceq h910
                            rw [wt_lm1] at c913
                            refine wt_T_gd (wt_ix (by omega) (by omega)) ?_
                            refine wt_T_gd (wt_ix (by omega) (by omega)) ?_
                            refine wt_T_gd (wt_ix (by omega) (by omega)) ?_
                            refine wt_T_gd (wt_ix (by omega) (by omega)) ?_
                            have bb914 := wt_tn z813.1
                            have bb915 := wt_bd (wt_ga z772.2.2.2 (292 + (Int32.toNatClampNeg z772.2.2.1)) (Int32.toNatClampNeg z813.1))
                            have tt916 : (wt_ga z772.2.2.2 (292 + (Int32.toNatClampNeg z772.2.2.1)) (Int32.toNatClampNeg z813.1)).toInt = (wt_ga r767 (292 + (Int32.toNatClampNeg z772.2.2.1)) (Int32.toNatClampNeg z813.1)).toInt := congrArg Int32.toInt (l774.2 (292 + (Int32.toNatClampNeg z772.2.2.1)) (by (try dsimp only); omega) (Int32.toNatClampNeg z813.1))
                            have bb917 := wt_bd (wt_ga r767 (292 + (Int32.toNatClampNeg z772.2.2.1)) (Int32.toNatClampNeg z813.1))
                            refine wt_T_if (fun h918 => ?_) (fun h918 => ?_)
                            · skip
                              have c919 := wt_cle h918
                              unfold wp_md_least_B172
                              unfold wp_md_least_B174
                              obtain ⟨j920, j920a, j920b⟩ := wt_addI z813.2.1 (1 : Int32)
                              refine hKK812 _ ⟨rfl, (wt_nn (B := wt_gf z813.2.2 108 28) (by omega) (by first | (rw [l815]; omega) | (rw [l815]; done) | omega)), (show (z813.1.toInt = -1 ∨ (0 ≤ z813.1.toInt ∧ z813.1.toInt ≤ 59)) by omega)⟩ ?_
                              show ((wt_gf z772.2.2.2 108 28).toInt - (z813.2.1 + (1 : Int32)).toInt + 0).toNat < ((wt_gf z813.2.2 108 28).toInt - z813.2.1.toInt + 0).toNat
                              exact wt_mu (by first | (rw [l815]; omega) | (rw [l815]; done) | omega) (by first | (rw [l815]; omega) | (rw [l815]; done) | omega)
                            · skip
                              have c921 := wt_ncle h918
                              unfold wp_md_least_B165
                              unfold wp_md_least_B172
                              unfold wp_md_least_B174
                              obtain ⟨j922, j922a, j922b⟩ := wt_addI z813.2.1 (1 : Int32)
                              refine hKK812 _ ⟨rfl, (wt_nn (B := wt_gf z813.2.2 108 28) (by omega) (by first | (rw [l815]; omega) | (rw [l815]; done) | omega)), (show (z813.2.1.toInt = -1 ∨ (0 ≤ z813.2.1.toInt ∧ z813.2.1.toInt ≤ 59)) by omega)⟩ ?_
                              show ((wt_gf z772.2.2.2 108 28).toInt - (z813.2.1 + (1 : Int32)).toInt + 0).toNat < ((wt_gf z813.2.2 108 28).toInt - z813.2.1.toInt + 0).toNat
                              exact wt_mu (by first | (rw [l815]; omega) | (rw [l815]; done) | omega) (by first | (rw [l815]; omega) | (rw [l815]; done) | omega)
              · skip
                have bb923 := wt_bd (wt_gf z772.2.2.2 108 28)
                have g924 : 0 ≤ (wt_gf z772.2.2.2 108 28).toInt ∧ (wt_gf z772.2.2.2 108 28).toInt ≤ 60 := wt_R_gf l777 6 rfl
                have tt925 : (wt_gf z772.2.2.2 108 28).toInt = (wt_gf r767 108 28).toInt := congrArg Int32.toInt (l774.1 108 28 (fun z => z))
                have bb926 := wt_bd (wt_gf r767 108 28)
                have g927 : 0 ≤ (wt_gf r767 108 28).toInt ∧ (wt_gf r767 108 28).toInt ≤ 60 := wt_R_gf ri770 6 rfl
                have tt928 : (wt_gf r767 108 28).toInt = (wt_gf r758.2 108 28).toInt := congrArg Int32.toInt (f769.1 108 28 (fun z => z))
                have bb929 := wt_bd (wt_gf r758.2 108 28)
                have g930 : 0 ≤ (wt_gf r758.2 108 28).toInt ∧ (wt_gf r758.2 108 28).toInt ≤ 60 := wt_R_gf ri761 6 rfl
                have tt931 : (wt_gf r758.2 108 28).toInt = (wt_gf r506.2 108 28).toInt := congrArg Int32.toInt (f760.1 108 28 (by (try dsimp only); omega))
                have bb932 := wt_bd (wt_gf r506.2 108 28)
                have g933 : 0 ≤ (wt_gf r506.2 108 28).toInt ∧ (wt_gf r506.2 108 28).toInt ≤ 60 := wt_R_gf ri509 6 rfl
                have tt934 : (wt_gf r506.2 108 28).toInt = (wt_gf σ4 108 28).toInt := congrArg Int32.toInt (f508.1 108 28 (by (try dsimp only); omega))
                have bb935 := wt_bd (wt_gf σ4 108 28)
                have g936 : 0 ≤ (wt_gf σ4 108 28).toInt ∧ (wt_gf σ4 108 28).toInt ≤ 60 := wt_R_gf rσ4 6 rfl
                have tt937 : (wt_gf σ4 108 28).toInt = (wt_gf σ 108 28).toInt := congrArg Int32.toInt (fσ4.1 108 28 (by (try dsimp only); omega))
                have bb938 := wt_bd (wt_gf σ 108 28)
                have g939 : 0 ≤ (wt_gf σ 108 28).toInt ∧ (wt_gf σ 108 28).toInt ≤ 60 := wt_R_gf r0 6 rfl
                have k940 := wt_lm1
                exact ⟨rfl, (show 0 ≤ ((0 : Int32)).toInt by omega), (show ((-1 : Int32).toInt = -1 ∨ (0 ≤ (-1 : Int32).toInt ∧ (-1 : Int32).toInt ≤ 59)) by omega)⟩
              · skip
                have bb941 := wt_bd (wt_gf z772.2.2.2 108 28)
                have g942 : 0 ≤ (wt_gf z772.2.2.2 108 28).toInt ∧ (wt_gf z772.2.2.2 108 28).toInt ≤ 60 := wt_R_gf l777 6 rfl
                have tt943 : (wt_gf z772.2.2.2 108 28).toInt = (wt_gf r767 108 28).toInt := congrArg Int32.toInt (l774.1 108 28 (fun z => z))
                have bb944 := wt_bd (wt_gf r767 108 28)
                have g945 : 0 ≤ (wt_gf r767 108 28).toInt ∧ (wt_gf r767 108 28).toInt ≤ 60 := wt_R_gf ri770 6 rfl
                have tt946 : (wt_gf r767 108 28).toInt = (wt_gf r758.2 108 28).toInt := congrArg Int32.toInt (f769.1 108 28 (fun z => z))
                have bb947 := wt_bd (wt_gf r758.2 108 28)
                have g948 : 0 ≤ (wt_gf r758.2 108 28).toInt ∧ (wt_gf r758.2 108 28).toInt ≤ 60 := wt_R_gf ri761 6 rfl
                have tt949 : (wt_gf r758.2 108 28).toInt = (wt_gf r506.2 108 28).toInt := congrArg Int32.toInt (f760.1 108 28 (by (try dsimp only); omega))
                have bb950 := wt_bd (wt_gf r506.2 108 28)
                have g951 : 0 ≤ (wt_gf r506.2 108 28).toInt ∧ (wt_gf r506.2 108 28).toInt ≤ 60 := wt_R_gf ri509 6 rfl
                have tt952 : (wt_gf r506.2 108 28).toInt = (wt_gf σ4 108 28).toInt := congrArg Int32.toInt (f508.1 108 28 (by (try dsimp only); omega))
                have bb953 := wt_bd (wt_gf σ4 108 28)
                have g954 : 0 ≤ (wt_gf σ4 108 28).toInt ∧ (wt_gf σ4 108 28).toInt ≤ 60 := wt_R_gf rσ4 6 rfl
                have tt955 : (wt_gf σ4 108 28).toInt = (wt_gf σ 108 28).toInt := congrArg Int32.toInt (fσ4.1 108 28 (by (try dsimp only); omega))
                have bb956 := wt_bd (wt_gf σ 108 28)
                have g957 : 0 ≤ (wt_gf σ 108 28).toInt ∧ (wt_gf σ 108 28).toInt ≤ 60 := wt_R_gf r0 6 rfl
                show ((wt_gf z772.2.2.2 108 28).toInt - (0 : Int32).toInt + 0).toNat < n
                omega
          · skip
            have bb958 := wt_tn x1
            have bb959 := wt_bd (wt_ga r767 253 (Int32.toNatClampNeg x1))
            have g960 : 0 ≤ (wt_ga r767 253 (Int32.toNatClampNeg x1)).toInt ∧ (wt_ga r767 253 (Int32.toNatClampNeg x1)).toInt ≤ 12 := wt_R_ga ri770 9 rfl 253 (by decide) (by decide) (Int32.toNatClampNeg x1)
            have tt961 : (wt_ga r767 253 (Int32.toNatClampNeg x1)).toInt = (wt_ga r758.2 253 (Int32.toNatClampNeg x1)).toInt := congrArg Int32.toInt (f769.2 253 (by (try dsimp only); omega) (Int32.toNatClampNeg x1))
            have bb962 := wt_bd (wt_ga r758.2 253 (Int32.toNatClampNeg x1))
            have g963 : 0 ≤ (wt_ga r758.2 253 (Int32.toNatClampNeg x1)).toInt ∧ (wt_ga r758.2 253 (Int32.toNatClampNeg x1)).toInt ≤ 12 := wt_R_ga ri761 9 rfl 253 (by decide) (by decide) (Int32.toNatClampNeg x1)
            have tt964 : (wt_ga r758.2 253 (Int32.toNatClampNeg x1)).toInt = (wt_ga r506.2 253 (Int32.toNatClampNeg x1)).toInt := congrArg Int32.toInt (f760.2 253 (fun z => z) (Int32.toNatClampNeg x1))
            have bb965 := wt_bd (wt_ga r506.2 253 (Int32.toNatClampNeg x1))
            have g966 : 0 ≤ (wt_ga r506.2 253 (Int32.toNatClampNeg x1)).toInt ∧ (wt_ga r506.2 253 (Int32.toNatClampNeg x1)).toInt ≤ 12 := wt_R_ga ri509 9 rfl 253 (by decide) (by decide) (Int32.toNatClampNeg x1)
            have tt967 : (wt_ga r506.2 253 (Int32.toNatClampNeg x1)).toInt = (wt_ga σ4 253 (Int32.toNatClampNeg x1)).toInt := congrArg Int32.toInt (f508.2 253 (fun z => z) (Int32.toNatClampNeg x1))
            have bb968 := wt_bd (wt_ga σ4 253 (Int32.toNatClampNeg x1))
            have g969 : 0 ≤ (wt_ga σ4 253 (Int32.toNatClampNeg x1)).toInt ∧ (wt_ga σ4 253 (Int32.toNatClampNeg x1)).toInt ≤ 12 := wt_R_ga rσ4 9 rfl 253 (by decide) (by decide) (Int32.toNatClampNeg x1)
            have tt970 : (wt_ga σ4 253 (Int32.toNatClampNeg x1)).toInt = (wt_ga σ 253 (Int32.toNatClampNeg x1)).toInt := congrArg Int32.toInt (fσ4.2 253 (fun z => z) (Int32.toNatClampNeg x1))
            have bb971 := wt_bd (wt_ga σ 253 (Int32.toNatClampNeg x1))
            have g972 : 0 ≤ (wt_ga σ 253 (Int32.toNatClampNeg x1)).toInt ∧ (wt_ga σ 253 (Int32.toNatClampNeg x1)).toInt ≤ 12 := wt_R_ga r0 9 rfl 253 (by decide) (by decide) (Int32.toNatClampNeg x1)
            have k973 := wt_lm1
            exact ⟨wt_fr.rf, (show 0 ≤ ((0 : Int32)).toInt by omega), (show ((-1 : Int32).toInt = -1 ∨ (0 ≤ (-1 : Int32).toInt ∧ (-1 : Int32).toInt ≤ 59)) by omega), ri770⟩
          · skip
            have bb974 := wt_tn x1
            have bb975 := wt_bd (wt_ga r767 253 (Int32.toNatClampNeg x1))
            have g976 : 0 ≤ (wt_ga r767 253 (Int32.toNatClampNeg x1)).toInt ∧ (wt_ga r767 253 (Int32.toNatClampNeg x1)).toInt ≤ 12 := wt_R_ga ri770 9 rfl 253 (by decide) (by decide) (Int32.toNatClampNeg x1)
            have tt977 : (wt_ga r767 253 (Int32.toNatClampNeg x1)).toInt = (wt_ga r758.2 253 (Int32.toNatClampNeg x1)).toInt := congrArg Int32.toInt (f769.2 253 (by (try dsimp only); omega) (Int32.toNatClampNeg x1))
            have bb978 := wt_bd (wt_ga r758.2 253 (Int32.toNatClampNeg x1))
            have g979 : 0 ≤ (wt_ga r758.2 253 (Int32.toNatClampNeg x1)).toInt ∧ (wt_ga r758.2 253 (Int32.toNatClampNeg x1)).toInt ≤ 12 := wt_R_ga ri761 9 rfl 253 (by decide) (by decide) (Int32.toNatClampNeg x1)
            have tt980 : (wt_ga r758.2 253 (Int32.toNatClampNeg x1)).toInt = (wt_ga r506.2 253 (Int32.toNatClampNeg x1)).toInt := congrArg Int32.toInt (f760.2 253 (fun z => z) (Int32.toNatClampNeg x1))
            have bb981 := wt_bd (wt_ga r506.2 253 (Int32.toNatClampNeg x1))
            have g982 : 0 ≤ (wt_ga r506.2 253 (Int32.toNatClampNeg x1)).toInt ∧ (wt_ga r506.2 253 (Int32.toNatClampNeg x1)).toInt ≤ 12 := wt_R_ga ri509 9 rfl 253 (by decide) (by decide) (Int32.toNatClampNeg x1)
            have tt983 : (wt_ga r506.2 253 (Int32.toNatClampNeg x1)).toInt = (wt_ga σ4 253 (Int32.toNatClampNeg x1)).toInt := congrArg Int32.toInt (f508.2 253 (fun z => z) (Int32.toNatClampNeg x1))
            have bb984 := wt_bd (wt_ga σ4 253 (Int32.toNatClampNeg x1))
            have g985 : 0 ≤ (wt_ga σ4 253 (Int32.toNatClampNeg x1)).toInt ∧ (wt_ga σ4 253 (Int32.toNatClampNeg x1)).toInt ≤ 12 := wt_R_ga rσ4 9 rfl 253 (by decide) (by decide) (Int32.toNatClampNeg x1)
            have tt986 : (wt_ga σ4 253 (Int32.toNatClampNeg x1)).toInt = (wt_ga σ 253 (Int32.toNatClampNeg x1)).toInt := congrArg Int32.toInt (fσ4.2 253 (fun z => z) (Int32.toNatClampNeg x1))
            have bb987 := wt_bd (wt_ga σ 253 (Int32.toNatClampNeg x1))
            have g988 : 0 ≤ (wt_ga σ 253 (Int32.toNatClampNeg x1)).toInt ∧ (wt_ga σ 253 (Int32.toNatClampNeg x1)).toInt ≤ 12 := wt_R_ga r0 9 rfl 253 (by decide) (by decide) (Int32.toNatClampNeg x1)
            show ((wt_ga r767 253 (Int32.toNatClampNeg x1)).toInt - (0 : Int32).toInt + 0).toNat < n
            omega
        · skip
          have c989 := wt_nceq h765
          refine wt_T_some ?_
          exact ⟨(wt_fr.tr (wt_fr.tr (wt_fr.tr wt_fr.rf fσ4 (fun i k h => by (try dsimp only at h); exact (by omega)) (fun i h => h.elim)) f508 (fun i k h => by (try dsimp only at h); exact (by omega)) (fun i h => h.elim)) f760 (fun i k h => by (try dsimp only at h); exact (by omega)) (fun i h => h.elim)), ri761⟩
    · skip
      have c990 := wt_nceq h514
      refine wt_T_some ?_
      exact ⟨(wt_fr.tr (wt_fr.tr wt_fr.rf fσ4 (fun i k h => by (try dsimp only at h); exact (by omega)) (fun i h => h.elim)) f508 (fun i k h => by (try dsimp only at h); exact (by omega)) (fun i h => h.elim)), ri509⟩
set_option maxRecDepth 100000 in
set_option maxHeartbeats 4000000 in
theorem wq_md_leastOf (n : Nat) (hn : 4294967297 < n) (x1 : Int32) (σ : wt_St) (r0 : wt_RI σ) (p0 : 0 ≤ x1.toInt) (p1 : x1.toInt ≤ 3) : wt_T (wp_md_leastOf n x1 σ) (fun q => q.2 = σ) := by
  have bb1 := wt_bd x1
  unfold wp_md_leastOf
  have k7 : (400 : Int32).toInt = 400 := by decide
  have k8 : (0 : Int32).toInt = 0 := by decide
  refine wt_T_it (fun s : Int32 × Int32 × wt_St => s.2.2 = σ ∧ 0 ≤ (s.2.1).toInt) (fun s : Int32 × Int32 × wt_St => ((wt_ga s.2.2 276 (Int32.toNatClampNeg x1)).toInt - s.2.1.toInt + 0).toNat) (fun KK2 z3 I4 hKK2 => ?_) _ _ ?_ ?_
  · skip
    obtain ⟨l5, l6⟩ := I4
    unfold wp_md_leastOf_B6
    rw [l5]
    have bb9 := wt_tn x1
    have bb10 := wt_bd (wt_ga σ 276 (Int32.toNatClampNeg x1))
    have g11 : 0 ≤ (wt_ga σ 276 (Int32.toNatClampNeg x1)).toInt ∧ (wt_ga σ 276 (Int32.toNatClampNeg x1)).toInt ≤ 108 := wt_R_ga r0 13 rfl 276 (by decide) (by decide) (Int32.toNatClampNeg x1)
    have bb12 := wt_bd z3.2.1
    refine wt_T_gd (wt_ix (by omega) (by omega)) ?_
    refine wt_T_if (fun h13 => ?_) (fun h13 => ?_)
    · skip
      have c14 := wt_cle h13
      refine wt_T_some ?_
      exact rfl
    · skip
      have c15 := wt_ncle h13
      refine wt_T_gd (wt_ix (by omega) (by omega)) ?_
      refine wt_T_gd (wt_ix (by omega) (by omega)) ?_
      have bb16 := wt_tn z3.2.1
      have bb17 := wt_bd (wt_ga σ (278 + (Int32.toNatClampNeg x1)) (Int32.toNatClampNeg z3.2.1))
      have g18 : 0 ≤ (wt_ga σ (278 + (Int32.toNatClampNeg x1)) (Int32.toNatClampNeg z3.2.1)).toInt ∧ (wt_ga σ (278 + (Int32.toNatClampNeg x1)) (Int32.toNatClampNeg z3.2.1)).toInt ≤ 337 := wt_R_ga r0 14 rfl (278 + (Int32.toNatClampNeg x1)) (show 278 ≤ 278 + (Int32.toNatClampNeg x1) by omega) (show 278 + (Int32.toNatClampNeg x1) < 282 by omega) (Int32.toNatClampNeg z3.2.1)
      refine wt_T_gd (wt_ix (by omega) (by omega)) ?_
      have bb19 := wt_bd z3.1
      have bb20 := wt_tn (wt_ga σ (278 + (Int32.toNatClampNeg x1)) (Int32.toNatClampNeg z3.2.1))
      have bb21 := wt_bd (wt_ga σ 121 (Int32.toNatClampNeg (wt_ga σ (278 + (Int32.toNatClampNeg x1)) (Int32.toNatClampNeg z3.2.1))))
      have g22 : 0 ≤ (wt_ga σ 121 (Int32.toNatClampNeg (wt_ga σ (278 + (Int32.toNatClampNeg x1)) (Int32.toNatClampNeg z3.2.1)))).toInt ∧ (wt_ga σ 121 (Int32.toNatClampNeg (wt_ga σ (278 + (Int32.toNatClampNeg x1)) (Int32.toNatClampNeg z3.2.1)))).toInt ≤ 400 := wt_R_ga r0 3 rfl 121 (by decide) (by decide) (Int32.toNatClampNeg (wt_ga σ (278 + (Int32.toNatClampNeg x1)) (Int32.toNatClampNeg z3.2.1)))
      refine wt_T_if (fun h23 => ?_) (fun h23 => ?_)
      · skip
        have c24 := wt_cle h23
        unfold wp_md_leastOf_B50
        refine hKK2 _ ⟨rfl, (wt_nn (B := wt_ga z3.2.2 276 (Int32.toNatClampNeg x1)) (by omega) (by first | (rw [l5]; omega) | (rw [l5]; done) | omega))⟩ ?_
        show ((wt_ga σ 276 (Int32.toNatClampNeg x1)).toInt - (z3.2.1 + (1 : Int32)).toInt + 0).toNat < ((wt_ga z3.2.2 276 (Int32.toNatClampNeg x1)).toInt - z3.2.1.toInt + 0).toNat
        exact wt_mu (by first | (rw [l5]; omega) | (rw [l5]; done) | omega) (by first | (rw [l5]; omega) | (rw [l5]; done) | omega)
      · skip
        have c25 := wt_ncle h23
        refine wt_T_gd (wt_ix (by omega) (by omega)) ?_
        refine wt_T_gd (wt_ix (by omega) (by omega)) ?_
        refine wt_T_gd (wt_ix (by omega) (by omega)) ?_
        unfold wp_md_leastOf_B50
        refine hKK2 _ ⟨rfl, (wt_nn (B := wt_ga z3.2.2 276 (Int32.toNatClampNeg x1)) (by omega) (by first | (rw [l5]; omega) | (rw [l5]; done) | omega))⟩ ?_
        show ((wt_ga σ 276 (Int32.toNatClampNeg x1)).toInt - (z3.2.1 + (1 : Int32)).toInt + 0).toNat < ((wt_ga z3.2.2 276 (Int32.toNatClampNeg x1)).toInt - z3.2.1.toInt + 0).toNat
        exact wt_mu (by first | (rw [l5]; omega) | (rw [l5]; done) | omega) (by first | (rw [l5]; omega) | (rw [l5]; done) | omega)
  · skip
    have bb26 := wt_tn x1
    have bb27 := wt_bd (wt_ga σ 276 (Int32.toNatClampNeg x1))
    have g28 : 0 ≤ (wt_ga σ 276 (Int32.toNatClampNeg x1)).toInt ∧ (wt_ga σ 276 (Int32.toNatClampNeg x1)).toInt ≤ 108 := wt_R_ga r0 13 rfl 276 (by decide) (by decide) (Int32.toNatClampNeg x1)
    exact ⟨rfl, (show 0 ≤ ((0 : Int32)).toInt by omega)⟩
  · skip
    have bb29 := wt_tn x1
    have bb30 := wt_bd (wt_ga σ 276 (Int32.toNatClampNeg x1))
    have g31 : 0 ≤ (wt_ga σ 276 (Int32.toNatClampNeg x1)).toInt ∧ (wt_ga σ 276 (Int32.toNatClampNeg x1)).toInt ≤ 108 := wt_R_ga r0 13 rfl 276 (by decide) (by decide) (Int32.toNatClampNeg x1)
    show ((wt_ga σ 276 (Int32.toNatClampNeg x1)).toInt - (0 : Int32).toInt + 0).toNat < n
    omega
