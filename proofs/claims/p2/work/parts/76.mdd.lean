set_option maxRecDepth 100000 in
set_option maxHeartbeats 4000000 in
theorem wq_md_lost (n : Nat) (hn : 4294967297 < n) (x1 : Int32) (σ : wt_St) (r0 : wt_RI σ) : wt_T (wp_md_lost n x1 σ) (fun q => wt_fr (fun i k => (i = 108 ∧ k = 0) ∨ (i = 108 ∧ k = 54)) (fun i => i = 286 ∨ i = 287 ∨ i = 124 ∨ i = 288 ∨ i = 121) σ q.2 ∧ wt_RI q.2) := by
  have bb1 := wt_bd x1
  unfold wp_md_lost
  obtain ⟨σ2, eσ2⟩ : ∃ z : wt_St, z = wt_sf σ 108 0 (0 : Int32) := ⟨_, rfl⟩
  rw [← eσ2]
  have fσ2 := wt_fr_sf eσ2
  have vσ2 := wt_ceq (wt_v_sf eσ2)
  have k3 : (0 : Int32).toInt = 0 := by decide
  have rσ2 := wt_RI_fno r0 eσ2 (Or.inr (by decide))
  refine wt_T_bi (wq_md_isWeek n hn x1 σ2 rσ2) (fun r4 h5 => ?_)
  obtain ⟨e6, pp7⟩ := h5
  have bb8 := wt_bd r4.1
  rw [e6]
  refine wt_T_if (fun h9 => ?_) (fun h9 => ?_)
  · skip
    have c10 := wt_ceq h9
    unfold wp_md_lost_B18
    have k11 : (1 : Int32).toInt = 1 := by decide
    refine wt_T_bi (wq_md_bad n hn (1 : Int32) (1 : Int32) σ2 rσ2 (by omega)) (fun r12 h13 => ?_)
    obtain ⟨f14, ri15, pp16⟩ := h13
    have bb17 := wt_bd r12.1
    have bb18 := wt_bd (wt_gf r12.2 108 0)
    have bb19 := wt_bd (wt_gf σ2 108 0)
    refine wt_T_if (fun h20 => ?_) (fun h20 => ?_)
    · skip
      have c21 := wt_ceq h20
      refine wt_T_bi (wq_md_greedyAhead n hn x1 r12.2 ri15) (fun r22 h23 => ?_)
      obtain ⟨f24, ri25⟩ := h23
      refine wt_T_it (fun s : Int32 × Int32 × wt_St => wt_fr (fun i k => False) (fun i => i = 287) r22.2 s.2.2 ∧ 0 ≤ (s.2.1).toInt ∧ wt_RI s.2.2) (fun s : Int32 × Int32 × wt_St => ((wt_gf s.2.2 108 28).toInt - s.2.1.toInt + 0).toNat) (fun KK26 z27 I28 hKK26 => ?_) _ _ ?_ ?_
      · skip
        obtain ⟨l29, l30, l31⟩ := I28
        unfold wp_md_lost_B37
        have bb32 := wt_bd (wt_gf z27.2.2 108 28)
        have g33 : 0 ≤ (wt_gf z27.2.2 108 28).toInt ∧ (wt_gf z27.2.2 108 28).toInt ≤ 60 := wt_R_gf l31 6 rfl
        have tt34 : (wt_gf z27.2.2 108 28).toInt = (wt_gf r22.2 108 28).toInt := congrArg Int32.toInt (l29.1 108 28 (fun z => z))
        have bb35 := wt_bd (wt_gf r22.2 108 28)
        have g36 : 0 ≤ (wt_gf r22.2 108 28).toInt ∧ (wt_gf r22.2 108 28).toInt ≤ 60 := wt_R_gf ri25 6 rfl
        have tt37 : (wt_gf r22.2 108 28).toInt = (wt_gf r12.2 108 28).toInt := congrArg Int32.toInt (f24.1 108 28 (by (try dsimp only); omega))
        have bb38 := wt_bd (wt_gf r12.2 108 28)
        have g39 : 0 ≤ (wt_gf r12.2 108 28).toInt ∧ (wt_gf r12.2 108 28).toInt ≤ 60 := wt_R_gf ri15 6 rfl
        have tt40 : (wt_gf r12.2 108 28).toInt = (wt_gf σ2 108 28).toInt := congrArg Int32.toInt (f14.1 108 28 (by (try dsimp only); omega))
        have bb41 := wt_bd (wt_gf σ2 108 28)
        have g42 : 0 ≤ (wt_gf σ2 108 28).toInt ∧ (wt_gf σ2 108 28).toInt ≤ 60 := wt_R_gf rσ2 6 rfl
        have tt43 : (wt_gf σ2 108 28).toInt = (wt_gf σ 108 28).toInt := congrArg Int32.toInt (fσ2.1 108 28 (by (try dsimp only); omega))
        have bb44 := wt_bd (wt_gf σ 108 28)
        have g45 : 0 ≤ (wt_gf σ 108 28).toInt ∧ (wt_gf σ 108 28).toInt ≤ 60 := wt_R_gf r0 6 rfl
        have bb46 := wt_bd z27.2.1
        refine wt_T_if (fun h47 => ?_) (fun h47 => ?_)
        · skip
          have c48 := wt_cle h47
          refine wt_T_bi (wq_md_putsBack n hn z27.2.2 l31) (fun r49 h50 => ?_)
          obtain ⟨f51, ri52⟩ := h50
          refine wt_T_some ?_
          exact ⟨(wt_fr.tr (wt_fr.tr (wt_fr.tr (wt_fr.tr (wt_fr.tr wt_fr.rf fσ2 (fun i k h => by (try dsimp only at h); exact Or.inl (by omega)) (fun i h => h.elim)) f14 (fun i k h => by (try dsimp only at h); exact Or.inl (by omega)) (fun i h => h.elim)) f24 (fun i k h => by (try dsimp only at h); exact Or.inr ((by omega))) (fun i h => by (try dsimp only at h); rcases h with h | h | h | h | h; exact Or.inl (by omega); exact Or.inr (Or.inl (by omega)); exact Or.inr (Or.inr (Or.inl (by omega))); exact Or.inr (Or.inr (Or.inr (Or.inl (by omega)))); exact Or.inr (Or.inr (Or.inr (Or.inr ((by omega))))))) l29 (fun i k h => h.elim) (fun i h => by (try dsimp only at h); exact Or.inr (Or.inl (by omega)))) f51 (fun i k h => h.elim) (fun i h => by (try dsimp only at h); exact Or.inr (Or.inr (Or.inr (Or.inr ((by omega))))))), ri52⟩
        · skip
          have c53 := wt_ncle h47
          refine wt_T_bi (wq_md_canWord n hn z27.2.1 z27.2.2 l31 (by omega) (by omega)) (fun r54 h55 => ?_)
          obtain ⟨f56, ri57, pp58⟩ := h55
          have bb59 := wt_bd r54.1
          refine wt_T_if (fun h60 => ?_) (fun h60 => ?_)
          · skip
            have c61 := wt_ceq h60
            unfold wp_md_lost_B59
            have bb62 := wt_bd z27.1
            obtain ⟨j63, j63a, j63b⟩ := wt_addI z27.1 (1 : Int32)
            have bb64 := wt_bd (wt_gf r54.2 108 28)
            have g65 : 0 ≤ (wt_gf r54.2 108 28).toInt ∧ (wt_gf r54.2 108 28).toInt ≤ 60 := wt_R_gf ri57 6 rfl
            have tt66 : (wt_gf r54.2 108 28).toInt = (wt_gf z27.2.2 108 28).toInt := congrArg Int32.toInt (f56.1 108 28 (fun z => z))
            refine hKK26 _ ⟨(wt_fr.tr (wt_fr.tr wt_fr.rf l29 (fun i k h => h.elim) (fun i h => by (try dsimp only at h); exact (by omega))) f56 (fun i k h => h.elim) (fun i h => by (try dsimp only at h); exact (by omega))), (wt_nn (B := wt_gf z27.2.2 108 28) (by omega) (by omega)), ri57⟩ ?_
            show ((wt_gf r54.2 108 28).toInt - (z27.2.1 + (1 : Int32)).toInt + 0).toNat < ((wt_gf z27.2.2 108 28).toInt - z27.2.1.toInt + 0).toNat
            exact wt_mu (by omega) (by omega)
          · skip
            have c67 := wt_nceq h60
            unfold wp_md_lost_B59
            have bb68 := wt_bd z27.1
            obtain ⟨j69, j69a, j69b⟩ := wt_addI z27.1 (0 : Int32)
            have bb70 := wt_bd (wt_gf r54.2 108 28)
            have g71 : 0 ≤ (wt_gf r54.2 108 28).toInt ∧ (wt_gf r54.2 108 28).toInt ≤ 60 := wt_R_gf ri57 6 rfl
            have tt72 : (wt_gf r54.2 108 28).toInt = (wt_gf z27.2.2 108 28).toInt := congrArg Int32.toInt (f56.1 108 28 (fun z => z))
            refine hKK26 _ ⟨(wt_fr.tr (wt_fr.tr wt_fr.rf l29 (fun i k h => h.elim) (fun i h => by (try dsimp only at h); exact (by omega))) f56 (fun i k h => h.elim) (fun i h => by (try dsimp only at h); exact (by omega))), (wt_nn (B := wt_gf z27.2.2 108 28) (by omega) (by omega)), ri57⟩ ?_
            show ((wt_gf r54.2 108 28).toInt - (z27.2.1 + (1 : Int32)).toInt + 0).toNat < ((wt_gf z27.2.2 108 28).toInt - z27.2.1.toInt + 0).toNat
            exact wt_mu (by omega) (by omega)
      · skip
        have bb73 := wt_bd (wt_gf r22.2 108 28)
        have g74 : 0 ≤ (wt_gf r22.2 108 28).toInt ∧ (wt_gf r22.2 108 28).toInt ≤ 60 := wt_R_gf ri25 6 rfl
        have tt75 : (wt_gf r22.2 108 28).toInt = (wt_gf r12.2 108 28).toInt := congrArg Int32.toInt (f24.1 108 28 (by (try dsimp only); omega))
        have bb76 := wt_bd (wt_gf r12.2 108 28)
        have g77 : 0 ≤ (wt_gf r12.2 108 28).toInt ∧ (wt_gf r12.2 108 28).toInt ≤ 60 := wt_R_gf ri15 6 rfl
        have tt78 : (wt_gf r12.2 108 28).toInt = (wt_gf σ2 108 28).toInt := congrArg Int32.toInt (f14.1 108 28 (by (try dsimp only); omega))
        have bb79 := wt_bd (wt_gf σ2 108 28)
        have g80 : 0 ≤ (wt_gf σ2 108 28).toInt ∧ (wt_gf σ2 108 28).toInt ≤ 60 := wt_R_gf rσ2 6 rfl
        have tt81 : (wt_gf σ2 108 28).toInt = (wt_gf σ 108 28).toInt := congrArg Int32.toInt (fσ2.1 108 28 (by (try dsimp only); omega))
        have bb82 := wt_bd (wt_gf σ 108 28)
        have g83 : 0 ≤ (wt_gf σ 108 28).toInt ∧ (wt_gf σ 108 28).toInt ≤ 60 := wt_R_gf r0 6 rfl
        exact ⟨wt_fr.rf, (show 0 ≤ ((0 : Int32)).toInt by omega), ri25⟩
      · skip
        have bb84 := wt_bd (wt_gf r22.2 108 28)
        have g85 : 0 ≤ (wt_gf r22.2 108 28).toInt ∧ (wt_gf r22.2 108 28).toInt ≤ 60 := wt_R_gf ri25 6 rfl
        have tt86 : (wt_gf r22.2 108 28).toInt = (wt_gf r12.2 108 28).toInt := congrArg Int32.toInt (f24.1 108 28 (by (try dsimp only); omega))
        have bb87 := wt_bd (wt_gf r12.2 108 28)
        have g88 : 0 ≤ (wt_gf r12.2 108 28).toInt ∧ (wt_gf r12.2 108 28).toInt ≤ 60 := wt_R_gf ri15 6 rfl
        have tt89 : (wt_gf r12.2 108 28).toInt = (wt_gf σ2 108 28).toInt := congrArg Int32.toInt (f14.1 108 28 (by (try dsimp only); omega))
        have bb90 := wt_bd (wt_gf σ2 108 28)
        have g91 : 0 ≤ (wt_gf σ2 108 28).toInt ∧ (wt_gf σ2 108 28).toInt ≤ 60 := wt_R_gf rσ2 6 rfl
        have tt92 : (wt_gf σ2 108 28).toInt = (wt_gf σ 108 28).toInt := congrArg Int32.toInt (fσ2.1 108 28 (by (try dsimp only); omega))
        have bb93 := wt_bd (wt_gf σ 108 28)
        have g94 : 0 ≤ (wt_gf σ 108 28).toInt ∧ (wt_gf σ 108 28).toInt ≤ 60 := wt_R_gf r0 6 rfl
        show ((wt_gf r22.2 108 28).toInt - (0 : Int32).toInt + 0).toNat < n
        omega
    · skip
      have c95 := wt_nceq h20
      refine wt_T_some ?_
      exact ⟨(wt_fr.tr (wt_fr.tr wt_fr.rf fσ2 (fun i k h => by (try dsimp only at h); exact Or.inl (by omega)) (fun i h => h.elim)) f14 (fun i k h => by (try dsimp only at h); exact Or.inl (by omega)) (fun i h => h.elim)), ri15⟩
  · skip
    have c96 := wt_nceq h9
    unfold wp_md_lost_B18
    have k97 : (1 : Int32).toInt = 1 := by decide
    refine wt_T_bi (wq_md_bad n hn (0 : Int32) (1 : Int32) σ2 rσ2 (by omega)) (fun r98 h99 => ?_)
    obtain ⟨f100, ri101, pp102⟩ := h99
    have bb103 := wt_bd r98.1
    have bb104 := wt_bd (wt_gf r98.2 108 0)
    have bb105 := wt_bd (wt_gf σ2 108 0)
    refine wt_T_if (fun h106 => ?_) (fun h106 => ?_)
    · skip
      have c107 := wt_ceq h106
      refine wt_T_bi (wq_md_greedyAhead n hn x1 r98.2 ri101) (fun r108 h109 => ?_)
      obtain ⟨f110, ri111⟩ := h109
      refine wt_T_it (fun s : Int32 × Int32 × wt_St => wt_fr (fun i k => False) (fun i => i = 287) r108.2 s.2.2 ∧ 0 ≤ (s.2.1).toInt ∧ wt_RI s.2.2) (fun s : Int32 × Int32 × wt_St => ((wt_gf s.2.2 108 28).toInt - s.2.1.toInt + 0).toNat) (fun KK112 z113 I114 hKK112 => ?_) _ _ ?_ ?_
      · skip
        obtain ⟨l115, l116, l117⟩ := I114
        unfold wp_md_lost_B37
        have bb118 := wt_bd (wt_gf z113.2.2 108 28)
        have g119 : 0 ≤ (wt_gf z113.2.2 108 28).toInt ∧ (wt_gf z113.2.2 108 28).toInt ≤ 60 := wt_R_gf l117 6 rfl
        have tt120 : (wt_gf z113.2.2 108 28).toInt = (wt_gf r108.2 108 28).toInt := congrArg Int32.toInt (l115.1 108 28 (fun z => z))
        have bb121 := wt_bd (wt_gf r108.2 108 28)
        have g122 : 0 ≤ (wt_gf r108.2 108 28).toInt ∧ (wt_gf r108.2 108 28).toInt ≤ 60 := wt_R_gf ri111 6 rfl
        have tt123 : (wt_gf r108.2 108 28).toInt = (wt_gf r98.2 108 28).toInt := congrArg Int32.toInt (f110.1 108 28 (by (try dsimp only); omega))
        have bb124 := wt_bd (wt_gf r98.2 108 28)
        have g125 : 0 ≤ (wt_gf r98.2 108 28).toInt ∧ (wt_gf r98.2 108 28).toInt ≤ 60 := wt_R_gf ri101 6 rfl
        have tt126 : (wt_gf r98.2 108 28).toInt = (wt_gf σ2 108 28).toInt := congrArg Int32.toInt (f100.1 108 28 (by (try dsimp only); omega))
        have bb127 := wt_bd (wt_gf σ2 108 28)
        have g128 : 0 ≤ (wt_gf σ2 108 28).toInt ∧ (wt_gf σ2 108 28).toInt ≤ 60 := wt_R_gf rσ2 6 rfl
        have tt129 : (wt_gf σ2 108 28).toInt = (wt_gf σ 108 28).toInt := congrArg Int32.toInt (fσ2.1 108 28 (by (try dsimp only); omega))
        have bb130 := wt_bd (wt_gf σ 108 28)
        have g131 : 0 ≤ (wt_gf σ 108 28).toInt ∧ (wt_gf σ 108 28).toInt ≤ 60 := wt_R_gf r0 6 rfl
        have bb132 := wt_bd z113.2.1
        refine wt_T_if (fun h133 => ?_) (fun h133 => ?_)
        · skip
          have c134 := wt_cle h133
          refine wt_T_bi (wq_md_putsBack n hn z113.2.2 l117) (fun r135 h136 => ?_)
          obtain ⟨f137, ri138⟩ := h136
          refine wt_T_some ?_
          exact ⟨(wt_fr.tr (wt_fr.tr (wt_fr.tr (wt_fr.tr (wt_fr.tr wt_fr.rf fσ2 (fun i k h => by (try dsimp only at h); exact Or.inl (by omega)) (fun i h => h.elim)) f100 (fun i k h => by (try dsimp only at h); exact Or.inl (by omega)) (fun i h => h.elim)) f110 (fun i k h => by (try dsimp only at h); exact Or.inr ((by omega))) (fun i h => by (try dsimp only at h); rcases h with h | h | h | h | h; exact Or.inl (by omega); exact Or.inr (Or.inl (by omega)); exact Or.inr (Or.inr (Or.inl (by omega))); exact Or.inr (Or.inr (Or.inr (Or.inl (by omega)))); exact Or.inr (Or.inr (Or.inr (Or.inr ((by omega))))))) l115 (fun i k h => h.elim) (fun i h => by (try dsimp only at h); exact Or.inr (Or.inl (by omega)))) f137 (fun i k h => h.elim) (fun i h => by (try dsimp only at h); exact Or.inr (Or.inr (Or.inr (Or.inr ((by omega))))))), ri138⟩
        · skip
          have c139 := wt_ncle h133
          refine wt_T_bi (wq_md_canWord n hn z113.2.1 z113.2.2 l117 (by omega) (by omega)) (fun r140 h141 => ?_)
          obtain ⟨f142, ri143, pp144⟩ := h141
          have bb145 := wt_bd r140.1
          refine wt_T_if (fun h146 => ?_) (fun h146 => ?_)
          · skip
            have c147 := wt_ceq h146
            unfold wp_md_lost_B59
            have bb148 := wt_bd z113.1
            obtain ⟨j149, j149a, j149b⟩ := wt_addI z113.1 (1 : Int32)
            have bb150 := wt_bd (wt_gf r140.2 108 28)
            have g151 : 0 ≤ (wt_gf r140.2 108 28).toInt ∧ (wt_gf r140.2 108 28).toInt ≤ 60 := wt_R_gf ri143 6 rfl
            have tt152 : (wt_gf r140.2 108 28).toInt = (wt_gf z113.2.2 108 28).toInt := congrArg Int32.toInt (f142.1 108 28 (fun z => z))
            refine hKK112 _ ⟨(wt_fr.tr (wt_fr.tr wt_fr.rf l115 (fun i k h => h.elim) (fun i h => by (try dsimp only at h); exact (by omega))) f142 (fun i k h => h.elim) (fun i h => by (try dsimp only at h); exact (by omega))), (wt_nn (B := wt_gf z113.2.2 108 28) (by omega) (by omega)), ri143⟩ ?_
            show ((wt_gf r140.2 108 28).toInt - (z113.2.1 + (1 : Int32)).toInt + 0).toNat < ((wt_gf z113.2.2 108 28).toInt - z113.2.1.toInt + 0).toNat
            exact wt_mu (by omega) (by omega)
          · skip
            have c153 := wt_nceq h146
            unfold wp_md_lost_B59
            have bb154 := wt_bd z113.1
            obtain ⟨j155, j155a, j155b⟩ := wt_addI z113.1 (0 : Int32)
            have bb156 := wt_bd (wt_gf r140.2 108 28)
            have g157 : 0 ≤ (wt_gf r140.2 108 28).toInt ∧ (wt_gf r140.2 108 28).toInt ≤ 60 := wt_R_gf ri143 6 rfl
            have tt158 : (wt_gf r140.2 108 28).toInt = (wt_gf z113.2.2 108 28).toInt := congrArg Int32.toInt (f142.1 108 28 (fun z => z))
            refine hKK112 _ ⟨(wt_fr.tr (wt_fr.tr wt_fr.rf l115 (fun i k h => h.elim) (fun i h => by (try dsimp only at h); exact (by omega))) f142 (fun i k h => h.elim) (fun i h => by (try dsimp only at h); exact (by omega))), (wt_nn (B := wt_gf z113.2.2 108 28) (by omega) (by omega)), ri143⟩ ?_
            show ((wt_gf r140.2 108 28).toInt - (z113.2.1 + (1 : Int32)).toInt + 0).toNat < ((wt_gf z113.2.2 108 28).toInt - z113.2.1.toInt + 0).toNat
            exact wt_mu (by omega) (by omega)
      · skip
        have bb159 := wt_bd (wt_gf r108.2 108 28)
        have g160 : 0 ≤ (wt_gf r108.2 108 28).toInt ∧ (wt_gf r108.2 108 28).toInt ≤ 60 := wt_R_gf ri111 6 rfl
        have tt161 : (wt_gf r108.2 108 28).toInt = (wt_gf r98.2 108 28).toInt := congrArg Int32.toInt (f110.1 108 28 (by (try dsimp only); omega))
        have bb162 := wt_bd (wt_gf r98.2 108 28)
        have g163 : 0 ≤ (wt_gf r98.2 108 28).toInt ∧ (wt_gf r98.2 108 28).toInt ≤ 60 := wt_R_gf ri101 6 rfl
        have tt164 : (wt_gf r98.2 108 28).toInt = (wt_gf σ2 108 28).toInt := congrArg Int32.toInt (f100.1 108 28 (by (try dsimp only); omega))
        have bb165 := wt_bd (wt_gf σ2 108 28)
        have g166 : 0 ≤ (wt_gf σ2 108 28).toInt ∧ (wt_gf σ2 108 28).toInt ≤ 60 := wt_R_gf rσ2 6 rfl
        have tt167 : (wt_gf σ2 108 28).toInt = (wt_gf σ 108 28).toInt := congrArg Int32.toInt (fσ2.1 108 28 (by (try dsimp only); omega))
        have bb168 := wt_bd (wt_gf σ 108 28)
        have g169 : 0 ≤ (wt_gf σ 108 28).toInt ∧ (wt_gf σ 108 28).toInt ≤ 60 := wt_R_gf r0 6 rfl
        exact ⟨wt_fr.rf, (show 0 ≤ ((0 : Int32)).toInt by omega), ri111⟩
      · skip
        have bb170 := wt_bd (wt_gf r108.2 108 28)
        have g171 : 0 ≤ (wt_gf r108.2 108 28).toInt ∧ (wt_gf r108.2 108 28).toInt ≤ 60 := wt_R_gf ri111 6 rfl
        have tt172 : (wt_gf r108.2 108 28).toInt = (wt_gf r98.2 108 28).toInt := congrArg Int32.toInt (f110.1 108 28 (by (try dsimp only); omega))
        have bb173 := wt_bd (wt_gf r98.2 108 28)
        have g174 : 0 ≤ (wt_gf r98.2 108 28).toInt ∧ (wt_gf r98.2 108 28).toInt ≤ 60 := wt_R_gf ri101 6 rfl
        have tt175 : (wt_gf r98.2 108 28).toInt = (wt_gf σ2 108 28).toInt := congrArg Int32.toInt (f100.1 108 28 (by (try dsimp only); omega))
        have bb176 := wt_bd (wt_gf σ2 108 28)
        have g177 : 0 ≤ (wt_gf σ2 108 28).toInt ∧ (wt_gf σ2 108 28).toInt ≤ 60 := wt_R_gf rσ2 6 rfl
        have tt178 : (wt_gf σ2 108 28).toInt = (wt_gf σ 108 28).toInt := congrArg Int32.toInt (fσ2.1 108 28 (by (try dsimp only); omega))
        have bb179 := wt_bd (wt_gf σ 108 28)
        have g180 : 0 ≤ (wt_gf σ 108 28).toInt ∧ (wt_gf σ 108 28).toInt ≤ 60 := wt_R_gf r0 6 rfl
        show ((wt_gf r108.2 108 28).toInt - (0 : Int32).toInt + 0).toNat < n
        omega
    · skip
      have c181 := wt_nceq h106
      refine wt_T_some ?_
      exact ⟨(wt_fr.tr (wt_fr.tr wt_fr.rf fσ2 (fun i k h => by (try dsimp only at h); exact Or.inl (by omega)) (fun i h => h.elim)) f100 (fun i k h => by (try dsimp only at h); exact Or.inl (by omega)) (fun i h => h.elim)), ri101⟩
set_option maxRecDepth 100000 in
set_option maxHeartbeats 4000000 in
theorem wq_md_most (n : Nat) (hn : 4294967297 < n) (x1 : Int32) (σ : wt_St) (r0 : wt_RI σ) : wt_T (wp_md_most n x1 σ) (fun q => wt_fr (fun i k => (i = 108 ∧ k = 0) ∨ (i = 108 ∧ k = 54)) (fun i => i = 286 ∨ i = 287 ∨ i = 124 ∨ i = 288 ∨ i = 121) σ q.2 ∧ wt_RI q.2) := by
  have bb1 := wt_bd x1
  unfold wp_md_most
  obtain ⟨σ2, eσ2⟩ : ∃ z : wt_St, z = wt_sf σ 108 0 (0 : Int32) := ⟨_, rfl⟩
  rw [← eσ2]
  have fσ2 := wt_fr_sf eσ2
  have vσ2 := wt_ceq (wt_v_sf eσ2)
  have k3 : (0 : Int32).toInt = 0 := by decide
  have rσ2 := wt_RI_fno r0 eσ2 (Or.inr (by decide))
  have k4 : (2 : Int32).toInt = 2 := by decide
  refine wt_T_bi (wq_md_in n hn x1 (0 : Int32) (2 : Int32) σ2 rσ2) (fun r5 h6 => ?_)
  obtain ⟨e7, pp8⟩ := h6
  have bb9 := wt_bd r5.1
  rw [e7]
  refine wt_T_if (fun h10 => ?_) (fun h10 => ?_)
  · skip
    have c11 := wt_ceq h10
    unfold wp_md_most_B20
    have k12 : (1 : Int32).toInt = 1 := by decide
    refine wt_T_bi (wq_md_bad n hn (1 : Int32) (1 : Int32) σ2 rσ2 (by omega)) (fun r13 h14 => ?_)
    obtain ⟨f15, ri16, pp17⟩ := h14
    have bb18 := wt_bd r13.1
    have bb19 := wt_bd (wt_gf r13.2 108 0)
    have bb20 := wt_bd (wt_gf σ2 108 0)
    refine wt_T_if (fun h21 => ?_) (fun h21 => ?_)
    · skip
      have c22 := wt_ceq h21
      refine wt_T_it (fun s : Int32 × Int32 × Int32 × wt_St => wt_fr (fun i k => (i = 108 ∧ k = 54)) (fun i => i = 286 ∨ i = 287 ∨ i = 124 ∨ i = 288 ∨ i = 121) r13.2 s.2.2.2 ∧ 0 ≤ (s.2.2.1).toInt ∧ wt_RI s.2.2.2) (fun s : Int32 × Int32 × Int32 × wt_St => (2147483647 - s.2.2.1.toInt).toNat) (fun KK23 z24 I25 hKK23 => ?_) _ _ ?_ ?_
      · skip
        obtain ⟨l26, l27, l28⟩ := I25
        unfold wp_md_most_B36
        have bb29 := wt_bd z24.2.2.1
        have bb30 := wt_bd (wt_gf z24.2.2.2 108 40)
        have g31 : 0 ≤ (wt_gf z24.2.2.2 108 40).toInt ∧ (wt_gf z24.2.2.2 108 40).toInt ≤ 10 := wt_R_gf l28 8 rfl
        have tt32 : (wt_gf z24.2.2.2 108 40).toInt = (wt_gf r13.2 108 40).toInt := congrArg Int32.toInt (l26.1 108 40 (by (try dsimp only); omega))
        have bb33 := wt_bd (wt_gf r13.2 108 40)
        have g34 : 0 ≤ (wt_gf r13.2 108 40).toInt ∧ (wt_gf r13.2 108 40).toInt ≤ 10 := wt_R_gf ri16 8 rfl
        have tt35 : (wt_gf r13.2 108 40).toInt = (wt_gf σ2 108 40).toInt := congrArg Int32.toInt (f15.1 108 40 (by (try dsimp only); omega))
        have bb36 := wt_bd (wt_gf σ2 108 40)
        have g37 : 0 ≤ (wt_gf σ2 108 40).toInt ∧ (wt_gf σ2 108 40).toInt ≤ 10 := wt_R_gf rσ2 8 rfl
        have tt38 : (wt_gf σ2 108 40).toInt = (wt_gf σ 108 40).toInt := congrArg Int32.toInt (fσ2.1 108 40 (by (try dsimp only); omega))
        have bb39 := wt_bd (wt_gf σ 108 40)
        have g40 : 0 ≤ (wt_gf σ 108 40).toInt ∧ (wt_gf σ 108 40).toInt ≤ 10 := wt_R_gf r0 8 rfl
        have k41 : (31 : Int32).toInt = 31 := by decide
        have bb42 := wt_bd ((wt_gf z24.2.2.2 108 40) &&& 31)
        have bb43 := wt_bd ((1 : Int32) <<< ((wt_gf z24.2.2.2 108 40) &&& 31))
        refine wt_T_if (fun h44 => ?_) (fun h44 => ?_)
        · skip
          have c45 := wt_cle h44
          refine wt_T_if (fun h46 => ?_) (fun h46 => ?_)
          · skip
            have c47 := wt_ceq h46
            have bb48 := wt_bd z24.1
            refine wt_T_bi (wq_md_worthOf n hn z24.1 z24.2.2.2 l28) (fun r49 h50 => ?_)
            have e51 := h50
            have bb52 := wt_bd r49.1
            rw [e51]
            refine wt_T_some ?_
            exact ⟨(wt_fr.tr (wt_fr.tr (wt_fr.tr wt_fr.rf fσ2 (fun i k h => by (try dsimp only at h); exact Or.inl (by omega)) (fun i h => h.elim)) f15 (fun i k h => by (try dsimp only at h); exact Or.inl (by omega)) (fun i h => h.elim)) l26 (fun i k h => by (try dsimp only at h); exact Or.inr ((by omega))) (fun i h => by (try dsimp only at h); rcases h with h | h | h | h | h; exact Or.inl (by omega); exact Or.inr (Or.inl (by omega)); exact Or.inr (Or.inr (Or.inl (by omega))); exact Or.inr (Or.inr (Or.inr (Or.inl (by omega)))); exact Or.inr (Or.inr (Or.inr (Or.inr ((by omega))))))), l28⟩
          · skip
            have c53 := wt_nceq h46
            refine wt_T_if (fun h54 => ?_) (fun h54 => ?_)
            · skip
              have c55 := wt_ceq h54
              refine wt_T_some ?_
              exact ⟨(wt_fr.tr (wt_fr.tr (wt_fr.tr wt_fr.rf fσ2 (fun i k h => by (try dsimp only at h); exact Or.inl (by omega)) (fun i h => h.elim)) f15 (fun i k h => by (try dsimp only at h); exact Or.inl (by omega)) (fun i h => h.elim)) l26 (fun i k h => by (try dsimp only at h); exact Or.inr ((by omega))) (fun i h => by (try dsimp only at h); rcases h with h | h | h | h | h; exact Or.inl (by omega); exact Or.inr (Or.inl (by omega)); exact Or.inr (Or.inr (Or.inl (by omega))); exact Or.inr (Or.inr (Or.inr (Or.inl (by omega)))); exact Or.inr (Or.inr (Or.inr (Or.inr ((by omega))))))), l28⟩
            · skip
              have c56 := wt_nceq h54
              refine wt_T_some ?_
              exact ⟨(wt_fr.tr (wt_fr.tr (wt_fr.tr wt_fr.rf fσ2 (fun i k h => by (try dsimp only at h); exact Or.inl (by omega)) (fun i h => h.elim)) f15 (fun i k h => by (try dsimp only at h); exact Or.inl (by omega)) (fun i h => h.elim)) l26 (fun i k h => by (try dsimp only at h); exact Or.inr ((by omega))) (fun i h => by (try dsimp only at h); rcases h with h | h | h | h | h; exact Or.inl (by omega); exact Or.inr (Or.inl (by omega)); exact Or.inr (Or.inr (Or.inl (by omega))); exact Or.inr (Or.inr (Or.inr (Or.inl (by omega)))); exact Or.inr (Or.inr (Or.inr (Or.inr ((by omega))))))), l28⟩
        · skip
          have c57 := wt_ncle h44
          refine wt_T_bi (wq_md_puts n hn z24.2.2.2 l28) (fun r58 h59 => ?_)
          obtain ⟨f60, ri61⟩ := h59
          have k62 : (100 : Int32).toInt = 100 := by decide
          refine wt_T_bi (wq_md_prints n hn z24.2.2.1 (0 : Int32) (100 : Int32) r58 ri61) (fun r63 h64 => ?_)
          obtain ⟨f65, ri66⟩ := h64
          have bb67 := wt_bd r63.1
          refine wt_T_if (fun h68 => ?_) (fun h68 => ?_)
          · skip
            have c69 := wt_ceq h68
            rw [wt_lm1] at c69
            unfold wp_md_most_B69
            refine wt_T_bi (wq_md_putsBack n hn r63.2 ri66) (fun r70 h71 => ?_)
            obtain ⟨f72, ri73⟩ := h71
            refine wt_T_if (fun h74 => ?_) (fun h74 => ?_)
            · skip
              have c75 := wt_ceq h74
              unfold wp_md_most_B107
              have bb76 := wt_bd z24.1
              have bb77 := wt_bd z24.2.1
              obtain ⟨j78, j78a, j78b⟩ := wt_addI z24.2.2.1 (1 : Int32)
              refine hKK23 _ ⟨(wt_fr.tr (wt_fr.tr (wt_fr.tr (wt_fr.tr wt_fr.rf l26 (fun i k h => by (try dsimp only at h); exact (by omega)) (fun i h => by (try dsimp only at h); rcases h with h | h | h | h | h; exact Or.inl (by omega); exact Or.inr (Or.inl (by omega)); exact Or.inr (Or.inr (Or.inl (by omega))); exact Or.inr (Or.inr (Or.inr (Or.inl (by omega)))); exact Or.inr (Or.inr (Or.inr (Or.inr ((by omega))))))) f60 (fun i k h => h.elim) (fun i h => by (try dsimp only at h); exact Or.inl (by omega))) f65 (fun i k h => by (try dsimp only at h); exact (by omega)) (fun i h => by (try dsimp only at h); rcases h with h | h | h | h; exact Or.inr (Or.inl (by omega)); exact Or.inr (Or.inr (Or.inl (by omega))); exact Or.inr (Or.inr (Or.inr (Or.inl (by omega)))); exact Or.inr (Or.inr (Or.inr (Or.inr ((by omega))))))) f72 (fun i k h => h.elim) (fun i h => by (try dsimp only at h); exact Or.inr (Or.inr (Or.inr (Or.inr ((by omega))))))), (show 0 ≤ ((z24.2.2.1 + (1 : Int32))).toInt by omega), ri73⟩ ?_
              show (2147483647 - (z24.2.2.1 + (1 : Int32)).toInt).toNat < (2147483647 - z24.2.2.1.toInt).toNat
              omega
            · skip
              have c79 := wt_nceq h74
              refine wt_T_bi (wq_md_worthOf n hn z24.2.2.1 r70 ri73) (fun r80 h81 => ?_)
              have e82 := h81
              have bb83 := wt_bd r80.1
              rw [e82]
              have bb84 := wt_bd z24.1
              refine wt_T_bi (wq_md_worthOf n hn z24.1 r70 ri73) (fun r85 h86 => ?_)
              have e87 := h86
              have bb88 := wt_bd r85.1
              rw [e87]
              refine wt_T_if (fun h89 => ?_) (fun h89 => ?_)
              · skip
                have c90 := wt_cle h89
                unfold wp_md_most_B106
                unfold wp_md_most_B107
                have bb91 := wt_bd z24.2.1
                obtain ⟨j92, j92a, j92b⟩ := wt_addI z24.2.1 (1 : Int32)
                obtain ⟨j93, j93a, j93b⟩ := wt_addI z24.2.2.1 (1 : Int32)
                refine hKK23 _ ⟨(wt_fr.tr (wt_fr.tr (wt_fr.tr (wt_fr.tr wt_fr.rf l26 (fun i k h => by (try dsimp only at h); exact (by omega)) (fun i h => by (try dsimp only at h); rcases h with h | h | h | h | h; exact Or.inl (by omega); exact Or.inr (Or.inl (by omega)); exact Or.inr (Or.inr (Or.inl (by omega))); exact Or.inr (Or.inr (Or.inr (Or.inl (by omega)))); exact Or.inr (Or.inr (Or.inr (Or.inr ((by omega))))))) f60 (fun i k h => h.elim) (fun i h => by (try dsimp only at h); exact Or.inl (by omega))) f65 (fun i k h => by (try dsimp only at h); exact (by omega)) (fun i h => by (try dsimp only at h); rcases h with h | h | h | h; exact Or.inr (Or.inl (by omega)); exact Or.inr (Or.inr (Or.inl (by omega))); exact Or.inr (Or.inr (Or.inr (Or.inl (by omega)))); exact Or.inr (Or.inr (Or.inr (Or.inr ((by omega))))))) f72 (fun i k h => h.elim) (fun i h => by (try dsimp only at h); exact Or.inr (Or.inr (Or.inr (Or.inr ((by omega))))))), (show 0 ≤ ((z24.2.2.1 + (1 : Int32))).toInt by omega), ri73⟩ ?_
                show (2147483647 - (z24.2.2.1 + (1 : Int32)).toInt).toNat < (2147483647 - z24.2.2.1.toInt).toNat
                omega
              · skip
                have c94 := wt_ncle h89
                unfold wp_md_most_B106
                unfold wp_md_most_B107
                have bb95 := wt_bd z24.2.1
                obtain ⟨j96, j96a, j96b⟩ := wt_addI z24.2.1 (1 : Int32)
                obtain ⟨j97, j97a, j97b⟩ := wt_addI z24.2.2.1 (1 : Int32)
                refine hKK23 _ ⟨(wt_fr.tr (wt_fr.tr (wt_fr.tr (wt_fr.tr wt_fr.rf l26 (fun i k h => by (try dsimp only at h); exact (by omega)) (fun i h => by (try dsimp only at h); rcases h with h | h | h | h | h; exact Or.inl (by omega); exact Or.inr (Or.inl (by omega)); exact Or.inr (Or.inr (Or.inl (by omega))); exact Or.inr (Or.inr (Or.inr (Or.inl (by omega)))); exact Or.inr (Or.inr (Or.inr (Or.inr ((by omega))))))) f60 (fun i k h => h.elim) (fun i h => by (try dsimp only at h); exact Or.inl (by omega))) f65 (fun i k h => by (try dsimp only at h); exact (by omega)) (fun i h => by (try dsimp only at h); rcases h with h | h | h | h; exact Or.inr (Or.inl (by omega)); exact Or.inr (Or.inr (Or.inl (by omega))); exact Or.inr (Or.inr (Or.inr (Or.inl (by omega)))); exact Or.inr (Or.inr (Or.inr (Or.inr ((by omega))))))) f72 (fun i k h => h.elim) (fun i h => by (try dsimp only at h); exact Or.inr (Or.inr (Or.inr (Or.inr ((by omega))))))), (show 0 ≤ ((z24.2.2.1 + (1 : Int32))).toInt by omega), ri73⟩ ?_
                show (2147483647 - (z24.2.2.1 + (1 : Int32)).toInt).toNat < (2147483647 - z24.2.2.1.toInt).toNat
                omega
          · skip
            have c98 := wt_nceq h68
            rw [wt_lm1] at c98
            unfold wp_md_most_B69
            refine wt_T_bi (wq_md_putsBack n hn r63.2 ri66) (fun r99 h100 => ?_)
            obtain ⟨f101, ri102⟩ := h100
            refine wt_T_if (fun h103 => ?_) (fun h103 => ?_)
            · skip
              have c104 := wt_ceq h103
              unfold wp_md_most_B107
              have bb105 := wt_bd z24.1
              have bb106 := wt_bd z24.2.1
              obtain ⟨j107, j107a, j107b⟩ := wt_addI z24.2.2.1 (1 : Int32)
              refine hKK23 _ ⟨(wt_fr.tr (wt_fr.tr (wt_fr.tr (wt_fr.tr wt_fr.rf l26 (fun i k h => by (try dsimp only at h); exact (by omega)) (fun i h => by (try dsimp only at h); rcases h with h | h | h | h | h; exact Or.inl (by omega); exact Or.inr (Or.inl (by omega)); exact Or.inr (Or.inr (Or.inl (by omega))); exact Or.inr (Or.inr (Or.inr (Or.inl (by omega)))); exact Or.inr (Or.inr (Or.inr (Or.inr ((by omega))))))) f60 (fun i k h => h.elim) (fun i h => by (try dsimp only at h); exact Or.inl (by omega))) f65 (fun i k h => by (try dsimp only at h); exact (by omega)) (fun i h => by (try dsimp only at h); rcases h with h | h | h | h; exact Or.inr (Or.inl (by omega)); exact Or.inr (Or.inr (Or.inl (by omega))); exact Or.inr (Or.inr (Or.inr (Or.inl (by omega)))); exact Or.inr (Or.inr (Or.inr (Or.inr ((by omega))))))) f101 (fun i k h => h.elim) (fun i h => by (try dsimp only at h); exact Or.inr (Or.inr (Or.inr (Or.inr ((by omega))))))), (show 0 ≤ ((z24.2.2.1 + (1 : Int32))).toInt by omega), ri102⟩ ?_
              show (2147483647 - (z24.2.2.1 + (1 : Int32)).toInt).toNat < (2147483647 - z24.2.2.1.toInt).toNat
              omega
            · skip
              have c108 := wt_nceq h103
              refine wt_T_bi (wq_md_worthOf n hn z24.2.2.1 r99 ri102) (fun r109 h110 => ?_)
              have e111 := h110
              have bb112 := wt_bd r109.1
              rw [e111]
              have bb113 := wt_bd z24.1
              refine wt_T_bi (wq_md_worthOf n hn z24.1 r99 ri102) (fun r114 h115 => ?_)
              have e116 := h115
              have bb117 := wt_bd r114.1
              rw [e116]
              refine wt_T_if (fun h118 => ?_) (fun h118 => ?_)
              · skip
                have c119 := wt_cle h118
                unfold wp_md_most_B106
                unfold wp_md_most_B107
                have bb120 := wt_bd z24.2.1
                obtain ⟨j121, j121a, j121b⟩ := wt_addI z24.2.1 (1 : Int32)
                obtain ⟨j122, j122a, j122b⟩ := wt_addI z24.2.2.1 (1 : Int32)
                refine hKK23 _ ⟨(wt_fr.tr (wt_fr.tr (wt_fr.tr (wt_fr.tr wt_fr.rf l26 (fun i k h => by (try dsimp only at h); exact (by omega)) (fun i h => by (try dsimp only at h); rcases h with h | h | h | h | h; exact Or.inl (by omega); exact Or.inr (Or.inl (by omega)); exact Or.inr (Or.inr (Or.inl (by omega))); exact Or.inr (Or.inr (Or.inr (Or.inl (by omega)))); exact Or.inr (Or.inr (Or.inr (Or.inr ((by omega))))))) f60 (fun i k h => h.elim) (fun i h => by (try dsimp only at h); exact Or.inl (by omega))) f65 (fun i k h => by (try dsimp only at h); exact (by omega)) (fun i h => by (try dsimp only at h); rcases h with h | h | h | h; exact Or.inr (Or.inl (by omega)); exact Or.inr (Or.inr (Or.inl (by omega))); exact Or.inr (Or.inr (Or.inr (Or.inl (by omega)))); exact Or.inr (Or.inr (Or.inr (Or.inr ((by omega))))))) f101 (fun i k h => h.elim) (fun i h => by (try dsimp only at h); exact Or.inr (Or.inr (Or.inr (Or.inr ((by omega))))))), (show 0 ≤ ((z24.2.2.1 + (1 : Int32))).toInt by omega), ri102⟩ ?_
                show (2147483647 - (z24.2.2.1 + (1 : Int32)).toInt).toNat < (2147483647 - z24.2.2.1.toInt).toNat
                omega
              · skip
                have c123 := wt_ncle h118
                unfold wp_md_most_B106
                unfold wp_md_most_B107
                have bb124 := wt_bd z24.2.1
                obtain ⟨j125, j125a, j125b⟩ := wt_addI z24.2.1 (1 : Int32)
                obtain ⟨j126, j126a, j126b⟩ := wt_addI z24.2.2.1 (1 : Int32)
                refine hKK23 _ ⟨(wt_fr.tr (wt_fr.tr (wt_fr.tr (wt_fr.tr wt_fr.rf l26 (fun i k h => by (try dsimp only at h); exact (by omega)) (fun i h => by (try dsimp only at h); rcases h with h | h | h | h | h; exact Or.inl (by omega); exact Or.inr (Or.inl (by omega)); exact Or.inr (Or.inr (Or.inl (by omega))); exact Or.inr (Or.inr (Or.inr (Or.inl (by omega)))); exact Or.inr (Or.inr (Or.inr (Or.inr ((by omega))))))) f60 (fun i k h => h.elim) (fun i h => by (try dsimp only at h); exact Or.inl (by omega))) f65 (fun i k h => by (try dsimp only at h); exact (by omega)) (fun i h => by (try dsimp only at h); rcases h with h | h | h | h; exact Or.inr (Or.inl (by omega)); exact Or.inr (Or.inr (Or.inl (by omega))); exact Or.inr (Or.inr (Or.inr (Or.inl (by omega)))); exact Or.inr (Or.inr (Or.inr (Or.inr ((by omega))))))) f101 (fun i k h => h.elim) (fun i h => by (try dsimp only at h); exact Or.inr (Or.inr (Or.inr (Or.inr ((by omega))))))), (show 0 ≤ ((z24.2.2.1 + (1 : Int32))).toInt by omega), ri102⟩ ?_
                show (2147483647 - (z24.2.2.1 + (1 : Int32)).toInt).toNat < (2147483647 - z24.2.2.1.toInt).toNat
                omega
      · skip
        exact ⟨wt_fr.rf, (show 0 ≤ ((0 : Int32)).toInt by omega), ri16⟩
      · skip
        show (2147483647 - (0 : Int32).toInt).toNat < n
        omega
    · skip
      have c127 := wt_nceq h21
      refine wt_T_some ?_
      exact ⟨(wt_fr.tr (wt_fr.tr wt_fr.rf fσ2 (fun i k h => by (try dsimp only at h); exact Or.inl (by omega)) (fun i h => h.elim)) f15 (fun i k h => by (try dsimp only at h); exact Or.inl (by omega)) (fun i h => h.elim)), ri16⟩
  · skip
    have c128 := wt_nceq h10
    unfold wp_md_most_B20
    have k129 : (1 : Int32).toInt = 1 := by decide
    refine wt_T_bi (wq_md_bad n hn (0 : Int32) (1 : Int32) σ2 rσ2 (by omega)) (fun r130 h131 => ?_)
    obtain ⟨f132, ri133, pp134⟩ := h131
    have bb135 := wt_bd r130.1
    have bb136 := wt_bd (wt_gf r130.2 108 0)
    have bb137 := wt_bd (wt_gf σ2 108 0)
    refine wt_T_if (fun h138 => ?_) (fun h138 => ?_)
    · skip
      have c139 := wt_ceq h138
      refine wt_T_it (fun s : Int32 × Int32 × Int32 × wt_St => wt_fr (fun i k => (i = 108 ∧ k = 54)) (fun i => i = 286 ∨ i = 287 ∨ i = 124 ∨ i = 288 ∨ i = 121) r130.2 s.2.2.2 ∧ 0 ≤ (s.2.2.1).toInt ∧ wt_RI s.2.2.2) (fun s : Int32 × Int32 × Int32 × wt_St => (2147483647 - s.2.2.1.toInt).toNat) (fun KK140 z141 I142 hKK140 => ?_) _ _ ?_ ?_
      · skip
        obtain ⟨l143, l144, l145⟩ := I142
        unfold wp_md_most_B36
        have bb146 := wt_bd z141.2.2.1
        have bb147 := wt_bd (wt_gf z141.2.2.2 108 40)
        have g148 : 0 ≤ (wt_gf z141.2.2.2 108 40).toInt ∧ (wt_gf z141.2.2.2 108 40).toInt ≤ 10 := wt_R_gf l145 8 rfl
        have tt149 : (wt_gf z141.2.2.2 108 40).toInt = (wt_gf r130.2 108 40).toInt := congrArg Int32.toInt (l143.1 108 40 (by (try dsimp only); omega))
        have bb150 := wt_bd (wt_gf r130.2 108 40)
        have g151 : 0 ≤ (wt_gf r130.2 108 40).toInt ∧ (wt_gf r130.2 108 40).toInt ≤ 10 := wt_R_gf ri133 8 rfl
        have tt152 : (wt_gf r130.2 108 40).toInt = (wt_gf σ2 108 40).toInt := congrArg Int32.toInt (f132.1 108 40 (by (try dsimp only); omega))
        have bb153 := wt_bd (wt_gf σ2 108 40)
        have g154 : 0 ≤ (wt_gf σ2 108 40).toInt ∧ (wt_gf σ2 108 40).toInt ≤ 10 := wt_R_gf rσ2 8 rfl
        have tt155 : (wt_gf σ2 108 40).toInt = (wt_gf σ 108 40).toInt := congrArg Int32.toInt (fσ2.1 108 40 (by (try dsimp only); omega))
        have bb156 := wt_bd (wt_gf σ 108 40)
        have g157 : 0 ≤ (wt_gf σ 108 40).toInt ∧ (wt_gf σ 108 40).toInt ≤ 10 := wt_R_gf r0 8 rfl
        have k158 : (31 : Int32).toInt = 31 := by decide
        have bb159 := wt_bd ((wt_gf z141.2.2.2 108 40) &&& 31)
        have bb160 := wt_bd ((1 : Int32) <<< ((wt_gf z141.2.2.2 108 40) &&& 31))
        refine wt_T_if (fun h161 => ?_) (fun h161 => ?_)
        · skip
          have c162 := wt_cle h161
          refine wt_T_if (fun h163 => ?_) (fun h163 => ?_)
          · skip
            have c164 := wt_ceq h163
            have bb165 := wt_bd z141.1
            refine wt_T_bi (wq_md_worthOf n hn z141.1 z141.2.2.2 l145) (fun r166 h167 => ?_)
            have e168 := h167
            have bb169 := wt_bd r166.1
            rw [e168]
            refine wt_T_some ?_
            exact ⟨(wt_fr.tr (wt_fr.tr (wt_fr.tr wt_fr.rf fσ2 (fun i k h => by (try dsimp only at h); exact Or.inl (by omega)) (fun i h => h.elim)) f132 (fun i k h => by (try dsimp only at h); exact Or.inl (by omega)) (fun i h => h.elim)) l143 (fun i k h => by (try dsimp only at h); exact Or.inr ((by omega))) (fun i h => by (try dsimp only at h); rcases h with h | h | h | h | h; exact Or.inl (by omega); exact Or.inr (Or.inl (by omega)); exact Or.inr (Or.inr (Or.inl (by omega))); exact Or.inr (Or.inr (Or.inr (Or.inl (by omega)))); exact Or.inr (Or.inr (Or.inr (Or.inr ((by omega))))))), l145⟩
          · skip
            have c170 := wt_nceq h163
            refine wt_T_if (fun h171 => ?_) (fun h171 => ?_)
            · skip
              have c172 := wt_ceq h171
              refine wt_T_some ?_
              exact ⟨(wt_fr.tr (wt_fr.tr (wt_fr.tr wt_fr.rf fσ2 (fun i k h => by (try dsimp only at h); exact Or.inl (by omega)) (fun i h => h.elim)) f132 (fun i k h => by (try dsimp only at h); exact Or.inl (by omega)) (fun i h => h.elim)) l143 (fun i k h => by (try dsimp only at h); exact Or.inr ((by omega))) (fun i h => by (try dsimp only at h); rcases h with h | h | h | h | h; exact Or.inl (by omega); exact Or.inr (Or.inl (by omega)); exact Or.inr (Or.inr (Or.inl (by omega))); exact Or.inr (Or.inr (Or.inr (Or.inl (by omega)))); exact Or.inr (Or.inr (Or.inr (Or.inr ((by omega))))))), l145⟩
            · skip
              have c173 := wt_nceq h171
              refine wt_T_some ?_
              exact ⟨(wt_fr.tr (wt_fr.tr (wt_fr.tr wt_fr.rf fσ2 (fun i k h => by (try dsimp only at h); exact Or.inl (by omega)) (fun i h => h.elim)) f132 (fun i k h => by (try dsimp only at h); exact Or.inl (by omega)) (fun i h => h.elim)) l143 (fun i k h => by (try dsimp only at h); exact Or.inr ((by omega))) (fun i h => by (try dsimp only at h); rcases h with h | h | h | h | h; exact Or.inl (by omega); exact Or.inr (Or.inl (by omega)); exact Or.inr (Or.inr (Or.inl (by omega))); exact Or.inr (Or.inr (Or.inr (Or.inl (by omega)))); exact Or.inr (Or.inr (Or.inr (Or.inr ((by omega))))))), l145⟩
        · skip
          have c174 := wt_ncle h161
          refine wt_T_bi (wq_md_puts n hn z141.2.2.2 l145) (fun r175 h176 => ?_)
          obtain ⟨f177, ri178⟩ := h176
          have k179 : (100 : Int32).toInt = 100 := by decide
          refine wt_T_bi (wq_md_prints n hn z141.2.2.1 (0 : Int32) (100 : Int32) r175 ri178) (fun r180 h181 => ?_)
          obtain ⟨f182, ri183⟩ := h181
          have bb184 := wt_bd r180.1
          refine wt_T_if (fun h185 => ?_) (fun h185 => ?_)
          · skip
            have c186 := wt_ceq h185
            rw [wt_lm1] at c186
            unfold wp_md_most_B69
            refine wt_T_bi (wq_md_putsBack n hn r180.2 ri183) (fun r187 h188 => ?_)
            obtain ⟨f189, ri190⟩ := h188
            refine wt_T_if (fun h191 => ?_) (fun h191 => ?_)
            · skip
              have c192 := wt_ceq h191
              unfold wp_md_most_B107
              have bb193 := wt_bd z141.1
              have bb194 := wt_bd z141.2.1
              obtain ⟨j195, j195a, j195b⟩ := wt_addI z141.2.2.1 (1 : Int32)
              refine hKK140 _ ⟨(wt_fr.tr (wt_fr.tr (wt_fr.tr (wt_fr.tr wt_fr.rf l143 (fun i k h => by (try dsimp only at h); exact (by omega)) (fun i h => by (try dsimp only at h); rcases h with h | h | h | h | h; exact Or.inl (by omega); exact Or.inr (Or.inl (by omega)); exact Or.inr (Or.inr (Or.inl (by omega))); exact Or.inr (Or.inr (Or.inr (Or.inl (by omega)))); exact Or.inr (Or.inr (Or.inr (Or.inr ((by omega))))))) f177 (fun i k h => h.elim) (fun i h => by (try dsimp only at h); exact Or.inl (by omega))) f182 (fun i k h => by (try dsimp only at h); exact (by omega)) (fun i h => by (try dsimp only at h); rcases h with h | h | h | h; exact Or.inr (Or.inl (by omega)); exact Or.inr (Or.inr (Or.inl (by omega))); exact Or.inr (Or.inr (Or.inr (Or.inl (by omega)))); exact Or.inr (Or.inr (Or.inr (Or.inr ((by omega))))))) f189 (fun i k h => h.elim) (fun i h => by (try dsimp only at h); exact Or.inr (Or.inr (Or.inr (Or.inr ((by omega))))))), (show 0 ≤ ((z141.2.2.1 + (1 : Int32))).toInt by omega), ri190⟩ ?_
              show (2147483647 - (z141.2.2.1 + (1 : Int32)).toInt).toNat < (2147483647 - z141.2.2.1.toInt).toNat
              omega
            · skip
              have c196 := wt_nceq h191
              refine wt_T_bi (wq_md_worthOf n hn z141.2.2.1 r187 ri190) (fun r197 h198 => ?_)
              have e199 := h198
              have bb200 := wt_bd r197.1
              rw [e199]
              have bb201 := wt_bd z141.1
              refine wt_T_bi (wq_md_worthOf n hn z141.1 r187 ri190) (fun r202 h203 => ?_)
              have e204 := h203
              have bb205 := wt_bd r202.1
              rw [e204]
              refine wt_T_if (fun h206 => ?_) (fun h206 => ?_)
              · skip
                have c207 := wt_cle h206
                unfold wp_md_most_B106
                unfold wp_md_most_B107
                have bb208 := wt_bd z141.2.1
                obtain ⟨j209, j209a, j209b⟩ := wt_addI z141.2.1 (1 : Int32)
                obtain ⟨j210, j210a, j210b⟩ := wt_addI z141.2.2.1 (1 : Int32)
                refine hKK140 _ ⟨(wt_fr.tr (wt_fr.tr (wt_fr.tr (wt_fr.tr wt_fr.rf l143 (fun i k h => by (try dsimp only at h); exact (by omega)) (fun i h => by (try dsimp only at h); rcases h with h | h | h | h | h; exact Or.inl (by omega); exact Or.inr (Or.inl (by omega)); exact Or.inr (Or.inr (Or.inl (by omega))); exact Or.inr (Or.inr (Or.inr (Or.inl (by omega)))); exact Or.inr (Or.inr (Or.inr (Or.inr ((by omega))))))) f177 (fun i k h => h.elim) (fun i h => by (try dsimp only at h); exact Or.inl (by omega))) f182 (fun i k h => by (try dsimp only at h); exact (by omega)) (fun i h => by (try dsimp only at h); rcases h with h | h | h | h; exact Or.inr (Or.inl (by omega)); exact Or.inr (Or.inr (Or.inl (by omega))); exact Or.inr (Or.inr (Or.inr (Or.inl (by omega)))); exact Or.inr (Or.inr (Or.inr (Or.inr ((by omega))))))) f189 (fun i k h => h.elim) (fun i h => by (try dsimp only at h); exact Or.inr (Or.inr (Or.inr (Or.inr ((by omega))))))), (show 0 ≤ ((z141.2.2.1 + (1 : Int32))).toInt by omega), ri190⟩ ?_
                show (2147483647 - (z141.2.2.1 + (1 : Int32)).toInt).toNat < (2147483647 - z141.2.2.1.toInt).toNat
                omega
              · skip
                have c211 := wt_ncle h206
                unfold wp_md_most_B106
                unfold wp_md_most_B107
                have bb212 := wt_bd z141.2.1
                obtain ⟨j213, j213a, j213b⟩ := wt_addI z141.2.1 (1 : Int32)
                obtain ⟨j214, j214a, j214b⟩ := wt_addI z141.2.2.1 (1 : Int32)
                refine hKK140 _ ⟨(wt_fr.tr (wt_fr.tr (wt_fr.tr (wt_fr.tr wt_fr.rf l143 (fun i k h => by (try dsimp only at h); exact (by omega)) (fun i h => by (try dsimp only at h); rcases h with h | h | h | h | h; exact Or.inl (by omega); exact Or.inr (Or.inl (by omega)); exact Or.inr (Or.inr (Or.inl (by omega))); exact Or.inr (Or.inr (Or.inr (Or.inl (by omega)))); exact Or.inr (Or.inr (Or.inr (Or.inr ((by omega))))))) f177 (fun i k h => h.elim) (fun i h => by (try dsimp only at h); exact Or.inl (by omega))) f182 (fun i k h => by (try dsimp only at h); exact (by omega)) (fun i h => by (try dsimp only at h); rcases h with h | h | h | h; exact Or.inr (Or.inl (by omega)); exact Or.inr (Or.inr (Or.inl (by omega))); exact Or.inr (Or.inr (Or.inr (Or.inl (by omega)))); exact Or.inr (Or.inr (Or.inr (Or.inr ((by omega))))))) f189 (fun i k h => h.elim) (fun i h => by (try dsimp only at h); exact Or.inr (Or.inr (Or.inr (Or.inr ((by omega))))))), (show 0 ≤ ((z141.2.2.1 + (1 : Int32))).toInt by omega), ri190⟩ ?_
                show (2147483647 - (z141.2.2.1 + (1 : Int32)).toInt).toNat < (2147483647 - z141.2.2.1.toInt).toNat
                omega
          · skip
            have c215 := wt_nceq h185
            rw [wt_lm1] at c215
            unfold wp_md_most_B69
            refine wt_T_bi (wq_md_putsBack n hn r180.2 ri183) (fun r216 h217 => ?_)
            obtain ⟨f218, ri219⟩ := h217
            refine wt_T_if (fun h220 => ?_) (fun h220 => ?_)
            · skip
              have c221 := wt_ceq h220
              unfold wp_md_most_B107
              have bb222 := wt_bd z141.1
              have bb223 := wt_bd z141.2.1
              obtain ⟨j224, j224a, j224b⟩ := wt_addI z141.2.2.1 (1 : Int32)
              refine hKK140 _ ⟨(wt_fr.tr (wt_fr.tr (wt_fr.tr (wt_fr.tr wt_fr.rf l143 (fun i k h => by (try dsimp only at h); exact (by omega)) (fun i h => by (try dsimp only at h); rcases h with h | h | h | h | h; exact Or.inl (by omega); exact Or.inr (Or.inl (by omega)); exact Or.inr (Or.inr (Or.inl (by omega))); exact Or.inr (Or.inr (Or.inr (Or.inl (by omega)))); exact Or.inr (Or.inr (Or.inr (Or.inr ((by omega))))))) f177 (fun i k h => h.elim) (fun i h => by (try dsimp only at h); exact Or.inl (by omega))) f182 (fun i k h => by (try dsimp only at h); exact (by omega)) (fun i h => by (try dsimp only at h); rcases h with h | h | h | h; exact Or.inr (Or.inl (by omega)); exact Or.inr (Or.inr (Or.inl (by omega))); exact Or.inr (Or.inr (Or.inr (Or.inl (by omega)))); exact Or.inr (Or.inr (Or.inr (Or.inr ((by omega))))))) f218 (fun i k h => h.elim) (fun i h => by (try dsimp only at h); exact Or.inr (Or.inr (Or.inr (Or.inr ((by omega))))))), (show 0 ≤ ((z141.2.2.1 + (1 : Int32))).toInt by omega), ri219⟩ ?_
              show (2147483647 - (z141.2.2.1 + (1 : Int32)).toInt).toNat < (2147483647 - z141.2.2.1.toInt).toNat
              omega
            · skip
              have c225 := wt_nceq h220
              refine wt_T_bi (wq_md_worthOf n hn z141.2.2.1 r216 ri219) (fun r226 h227 => ?_)
              have e228 := h227
              have bb229 := wt_bd r226.1
              rw [e228]
              have bb230 := wt_bd z141.1
              refine wt_T_bi (wq_md_worthOf n hn z141.1 r216 ri219) (fun r231 h232 => ?_)
              have e233 := h232
              have bb234 := wt_bd r231.1
              rw [e233]
              refine wt_T_if (fun h235 => ?_) (fun h235 => ?_)
              · skip
                have c236 := wt_cle h235
                unfold wp_md_most_B106
                unfold wp_md_most_B107
                have bb237 := wt_bd z141.2.1
                obtain ⟨j238, j238a, j238b⟩ := wt_addI z141.2.1 (1 : Int32)
                obtain ⟨j239, j239a, j239b⟩ := wt_addI z141.2.2.1 (1 : Int32)
                refine hKK140 _ ⟨(wt_fr.tr (wt_fr.tr (wt_fr.tr (wt_fr.tr wt_fr.rf l143 (fun i k h => by (try dsimp only at h); exact (by omega)) (fun i h => by (try dsimp only at h); rcases h with h | h | h | h | h; exact Or.inl (by omega); exact Or.inr (Or.inl (by omega)); exact Or.inr (Or.inr (Or.inl (by omega))); exact Or.inr (Or.inr (Or.inr (Or.inl (by omega)))); exact Or.inr (Or.inr (Or.inr (Or.inr ((by omega))))))) f177 (fun i k h => h.elim) (fun i h => by (try dsimp only at h); exact Or.inl (by omega))) f182 (fun i k h => by (try dsimp only at h); exact (by omega)) (fun i h => by (try dsimp only at h); rcases h with h | h | h | h; exact Or.inr (Or.inl (by omega)); exact Or.inr (Or.inr (Or.inl (by omega))); exact Or.inr (Or.inr (Or.inr (Or.inl (by omega)))); exact Or.inr (Or.inr (Or.inr (Or.inr ((by omega))))))) f218 (fun i k h => h.elim) (fun i h => by (try dsimp only at h); exact Or.inr (Or.inr (Or.inr (Or.inr ((by omega))))))), (show 0 ≤ ((z141.2.2.1 + (1 : Int32))).toInt by omega), ri219⟩ ?_
                show (2147483647 - (z141.2.2.1 + (1 : Int32)).toInt).toNat < (2147483647 - z141.2.2.1.toInt).toNat
                omega
              · skip
                have c240 := wt_ncle h235
                unfold wp_md_most_B106
                unfold wp_md_most_B107
                have bb241 := wt_bd z141.2.1
                obtain ⟨j242, j242a, j242b⟩ := wt_addI z141.2.1 (1 : Int32)
                obtain ⟨j243, j243a, j243b⟩ := wt_addI z141.2.2.1 (1 : Int32)
                refine hKK140 _ ⟨(wt_fr.tr (wt_fr.tr (wt_fr.tr (wt_fr.tr wt_fr.rf l143 (fun i k h => by (try dsimp only at h); exact (by omega)) (fun i h => by (try dsimp only at h); rcases h with h | h | h | h | h; exact Or.inl (by omega); exact Or.inr (Or.inl (by omega)); exact Or.inr (Or.inr (Or.inl (by omega))); exact Or.inr (Or.inr (Or.inr (Or.inl (by omega)))); exact Or.inr (Or.inr (Or.inr (Or.inr ((by omega))))))) f177 (fun i k h => h.elim) (fun i h => by (try dsimp only at h); exact Or.inl (by omega))) f182 (fun i k h => by (try dsimp only at h); exact (by omega)) (fun i h => by (try dsimp only at h); rcases h with h | h | h | h; exact Or.inr (Or.inl (by omega)); exact Or.inr (Or.inr (Or.inl (by omega))); exact Or.inr (Or.inr (Or.inr (Or.inl (by omega)))); exact Or.inr (Or.inr (Or.inr (Or.inr ((by omega))))))) f218 (fun i k h => h.elim) (fun i h => by (try dsimp only at h); exact Or.inr (Or.inr (Or.inr (Or.inr ((by omega))))))), (show 0 ≤ ((z141.2.2.1 + (1 : Int32))).toInt by omega), ri219⟩ ?_
                show (2147483647 - (z141.2.2.1 + (1 : Int32)).toInt).toNat < (2147483647 - z141.2.2.1.toInt).toNat
                omega
      · skip
        exact ⟨wt_fr.rf, (show 0 ≤ ((0 : Int32)).toInt by omega), ri133⟩
      · skip
        show (2147483647 - (0 : Int32).toInt).toNat < n
        omega
    · skip
      have c244 := wt_nceq h138
      refine wt_T_some ?_
      exact ⟨(wt_fr.tr (wt_fr.tr wt_fr.rf fσ2 (fun i k h => by (try dsimp only at h); exact Or.inl (by omega)) (fun i h => h.elim)) f132 (fun i k h => by (try dsimp only at h); exact Or.inl (by omega)) (fun i h => h.elim)), ri133⟩
set_option maxRecDepth 100000 in
set_option maxHeartbeats 4000000 in
theorem wq_md_needs (n : Nat) (hn : 4294967297 < n) (x1 : Int32) (x2 : Int32) (σ : wt_St) (r0 : wt_RI σ) : wt_T (wp_md_needs n x1 x2 σ) (fun q => wt_fr (fun i k => (i = 108 ∧ k = 0)) (fun i => i = 287) σ q.2 ∧ wt_RI q.2) := by
  have bb1 := wt_bd x1
  have bb2 := wt_bd x2
  unfold wp_md_needs
  obtain ⟨σ3, eσ3⟩ : ∃ z : wt_St, z = wt_sf σ 108 0 (0 : Int32) := ⟨_, rfl⟩
  rw [← eσ3]
  have fσ3 := wt_fr_sf eσ3
  have vσ3 := wt_ceq (wt_v_sf eσ3)
  have k4 : (0 : Int32).toInt = 0 := by decide
  have rσ3 := wt_RI_fno r0 eσ3 (Or.inr (by decide))
  refine wt_T_bi (wq_md_isText n hn x1 σ3 rσ3) (fun r5 h6 => ?_)
  obtain ⟨e7, pp8⟩ := h6
  have bb9 := wt_bd r5.1
  rw [e7]
  have bb10 := wt_bd (wt_gf σ3 108 39)
  have g11 : 0 ≤ (wt_gf σ3 108 39).toInt ∧ (wt_gf σ3 108 39).toInt ≤ 8 := wt_R_gf rσ3 7 rfl
  have tt12 : (wt_gf σ3 108 39).toInt = (wt_gf σ 108 39).toInt := congrArg Int32.toInt (fσ3.1 108 39 (by (try dsimp only); omega))
  have bb13 := wt_bd (wt_gf σ 108 39)
  have g14 : 0 ≤ (wt_gf σ 108 39).toInt ∧ (wt_gf σ 108 39).toInt ≤ 8 := wt_R_gf r0 7 rfl
  refine wt_T_if (fun h15 => ?_) (fun h15 => ?_)
  · skip
    have c16 := wt_ceq h15
    unfold wp_md_needs_B19
    have k17 : (1 : Int32).toInt = 1 := by decide
    refine wt_T_bi (wq_md_bad n hn (1 : Int32) (1 : Int32) σ3 rσ3 (by omega)) (fun r18 h19 => ?_)
    obtain ⟨f20, ri21, pp22⟩ := h19
    have bb23 := wt_bd r18.1
    have bb24 := wt_bd (wt_gf r18.2 108 0)
    have bb25 := wt_bd (wt_gf σ3 108 0)
    refine wt_T_if (fun h26 => ?_) (fun h26 => ?_)
    · skip
      have c27 := wt_ceq h26
      refine wt_T_bi (wq_md_isLetter n hn x2 r18.2 ri21) (fun r28 h29 => ?_)
      obtain ⟨e30, pp31⟩ := h29
      have bb32 := wt_bd r28.1
      rw [e30]
      refine wt_T_if (fun h33 => ?_) (fun h33 => ?_)
      · skip
        have c34 := wt_ceq h33
        unfold wp_md_needs_B39
        have k35 : (2 : Int32).toInt = 2 := by decide
        refine wt_T_bi (wq_md_bad n hn (1 : Int32) (2 : Int32) r18.2 ri21 (by omega)) (fun r36 h37 => ?_)
        obtain ⟨f38, ri39, pp40⟩ := h37
        have bb41 := wt_bd r36.1
        have bb42 := wt_bd (wt_gf r36.2 108 0)
        refine wt_T_if (fun h43 => ?_) (fun h43 => ?_)
        · skip
          have c44 := wt_ceq h43
          refine wt_T_bi (wq_md_needsText n hn x1 r36.2 ri39 (by omega) (by omega)) (fun r45 h46 => ?_)
          obtain ⟨f47, ri48, pp49⟩ := h46
          refine wt_T_gd (wt_ix (by omega) (by omega)) ?_
          refine wt_T_some ?_
          exact ⟨(wt_fr.tr (wt_fr.tr (wt_fr.tr (wt_fr.tr wt_fr.rf fσ3 (fun i k h => by (try dsimp only at h); exact (by omega)) (fun i h => h.elim)) f20 (fun i k h => by (try dsimp only at h); exact (by omega)) (fun i h => h.elim)) f38 (fun i k h => by (try dsimp only at h); exact (by omega)) (fun i h => h.elim)) f47 (fun i k h => h.elim) (fun i h => by (try dsimp only at h); exact (by omega))), ri48⟩
        · skip
          have c50 := wt_nceq h43
          refine wt_T_some ?_
          exact ⟨(wt_fr.tr (wt_fr.tr (wt_fr.tr wt_fr.rf fσ3 (fun i k h => by (try dsimp only at h); exact (by omega)) (fun i h => h.elim)) f20 (fun i k h => by (try dsimp only at h); exact (by omega)) (fun i h => h.elim)) f38 (fun i k h => by (try dsimp only at h); exact (by omega)) (fun i h => h.elim)), ri39⟩
      · skip
        have c51 := wt_nceq h33
        unfold wp_md_needs_B39
        have k52 : (2 : Int32).toInt = 2 := by decide
        refine wt_T_bi (wq_md_bad n hn (0 : Int32) (2 : Int32) r18.2 ri21 (by omega)) (fun r53 h54 => ?_)
        obtain ⟨f55, ri56, pp57⟩ := h54
        have bb58 := wt_bd r53.1
        have bb59 := wt_bd (wt_gf r53.2 108 0)
        refine wt_T_if (fun h60 => ?_) (fun h60 => ?_)
        · skip
          have c61 := wt_ceq h60
          refine wt_T_bi (wq_md_needsText n hn x1 r53.2 ri56 (by omega) (by omega)) (fun r62 h63 => ?_)
          obtain ⟨f64, ri65, pp66⟩ := h63
          refine wt_T_gd (wt_ix (by omega) (by omega)) ?_
          refine wt_T_some ?_
          exact ⟨(wt_fr.tr (wt_fr.tr (wt_fr.tr (wt_fr.tr wt_fr.rf fσ3 (fun i k h => by (try dsimp only at h); exact (by omega)) (fun i h => h.elim)) f20 (fun i k h => by (try dsimp only at h); exact (by omega)) (fun i h => h.elim)) f55 (fun i k h => by (try dsimp only at h); exact (by omega)) (fun i h => h.elim)) f64 (fun i k h => h.elim) (fun i h => by (try dsimp only at h); exact (by omega))), ri65⟩
        · skip
          have c67 := wt_nceq h60
          refine wt_T_some ?_
          exact ⟨(wt_fr.tr (wt_fr.tr (wt_fr.tr wt_fr.rf fσ3 (fun i k h => by (try dsimp only at h); exact (by omega)) (fun i h => h.elim)) f20 (fun i k h => by (try dsimp only at h); exact (by omega)) (fun i h => h.elim)) f55 (fun i k h => by (try dsimp only at h); exact (by omega)) (fun i h => h.elim)), ri56⟩
    · skip
      have c68 := wt_nceq h26
      refine wt_T_some ?_
      exact ⟨(wt_fr.tr (wt_fr.tr wt_fr.rf fσ3 (fun i k h => by (try dsimp only at h); exact (by omega)) (fun i h => h.elim)) f20 (fun i k h => by (try dsimp only at h); exact (by omega)) (fun i h => h.elim)), ri21⟩
  · skip
    have c69 := wt_nceq h15
    unfold wp_md_needs_B19
    have k70 : (1 : Int32).toInt = 1 := by decide
    refine wt_T_bi (wq_md_bad n hn (0 : Int32) (1 : Int32) σ3 rσ3 (by omega)) (fun r71 h72 => ?_)
    obtain ⟨f73, ri74, pp75⟩ := h72
    have bb76 := wt_bd r71.1
    have bb77 := wt_bd (wt_gf r71.2 108 0)
    have bb78 := wt_bd (wt_gf σ3 108 0)
    refine wt_T_if (fun h79 => ?_) (fun h79 => ?_)
    · skip
      have c80 := wt_ceq h79
      refine wt_T_bi (wq_md_isLetter n hn x2 r71.2 ri74) (fun r81 h82 => ?_)
      obtain ⟨e83, pp84⟩ := h82
      have bb85 := wt_bd r81.1
      rw [e83]
      refine wt_T_if (fun h86 => ?_) (fun h86 => ?_)
      · skip
        have c87 := wt_ceq h86
        unfold wp_md_needs_B39
        have k88 : (2 : Int32).toInt = 2 := by decide
        refine wt_T_bi (wq_md_bad n hn (1 : Int32) (2 : Int32) r71.2 ri74 (by omega)) (fun r89 h90 => ?_)
        obtain ⟨f91, ri92, pp93⟩ := h90
        have bb94 := wt_bd r89.1
        have bb95 := wt_bd (wt_gf r89.2 108 0)
        refine wt_T_if (fun h96 => ?_) (fun h96 => ?_)
        · skip
          have c97 := wt_ceq h96
          refine wt_T_bi (wq_md_needsText n hn x1 r89.2 ri92 (by omega) (by omega)) (fun r98 h99 => ?_)
          obtain ⟨f100, ri101, pp102⟩ := h99
          refine wt_T_gd (wt_ix (by omega) (by omega)) ?_
          refine wt_T_some ?_
          exact ⟨(wt_fr.tr (wt_fr.tr (wt_fr.tr (wt_fr.tr wt_fr.rf fσ3 (fun i k h => by (try dsimp only at h); exact (by omega)) (fun i h => h.elim)) f73 (fun i k h => by (try dsimp only at h); exact (by omega)) (fun i h => h.elim)) f91 (fun i k h => by (try dsimp only at h); exact (by omega)) (fun i h => h.elim)) f100 (fun i k h => h.elim) (fun i h => by (try dsimp only at h); exact (by omega))), ri101⟩
        · skip
          have c103 := wt_nceq h96
          refine wt_T_some ?_
          exact ⟨(wt_fr.tr (wt_fr.tr (wt_fr.tr wt_fr.rf fσ3 (fun i k h => by (try dsimp only at h); exact (by omega)) (fun i h => h.elim)) f73 (fun i k h => by (try dsimp only at h); exact (by omega)) (fun i h => h.elim)) f91 (fun i k h => by (try dsimp only at h); exact (by omega)) (fun i h => h.elim)), ri92⟩
      · skip
        have c104 := wt_nceq h86
        unfold wp_md_needs_B39
        have k105 : (2 : Int32).toInt = 2 := by decide
        refine wt_T_bi (wq_md_bad n hn (0 : Int32) (2 : Int32) r71.2 ri74 (by omega)) (fun r106 h107 => ?_)
        obtain ⟨f108, ri109, pp110⟩ := h107
        have bb111 := wt_bd r106.1
        have bb112 := wt_bd (wt_gf r106.2 108 0)
        refine wt_T_if (fun h113 => ?_) (fun h113 => ?_)
        · skip
          have c114 := wt_ceq h113
          refine wt_T_bi (wq_md_needsText n hn x1 r106.2 ri109 (by omega) (by omega)) (fun r115 h116 => ?_)
          obtain ⟨f117, ri118, pp119⟩ := h116
          refine wt_T_gd (wt_ix (by omega) (by omega)) ?_
          refine wt_T_some ?_
          exact ⟨(wt_fr.tr (wt_fr.tr (wt_fr.tr (wt_fr.tr wt_fr.rf fσ3 (fun i k h => by (try dsimp only at h); exact (by omega)) (fun i h => h.elim)) f73 (fun i k h => by (try dsimp only at h); exact (by omega)) (fun i h => h.elim)) f108 (fun i k h => by (try dsimp only at h); exact (by omega)) (fun i h => h.elim)) f117 (fun i k h => h.elim) (fun i h => by (try dsimp only at h); exact (by omega))), ri118⟩
        · skip
          have c120 := wt_nceq h113
          refine wt_T_some ?_
          exact ⟨(wt_fr.tr (wt_fr.tr (wt_fr.tr wt_fr.rf fσ3 (fun i k h => by (try dsimp only at h); exact (by omega)) (fun i h => h.elim)) f73 (fun i k h => by (try dsimp only at h); exact (by omega)) (fun i h => h.elim)) f108 (fun i k h => by (try dsimp only at h); exact (by omega)) (fun i h => h.elim)), ri109⟩
    · skip
      have c121 := wt_nceq h79
      refine wt_T_some ?_
      exact ⟨(wt_fr.tr (wt_fr.tr wt_fr.rf fσ3 (fun i k h => by (try dsimp only at h); exact (by omega)) (fun i h => h.elim)) f73 (fun i k h => by (try dsimp only at h); exact (by omega)) (fun i h => h.elim)), ri74⟩
set_option maxRecDepth 100000 in
set_option maxHeartbeats 4000000 in
theorem wq_md_ones (n : Nat) (hn : 4294967297 < n) (x0 : Int32) (σ : wt_St) (r0 : wt_RI σ) : wt_T (wp_md_ones n x0 σ) (fun q => q.2 = σ) := by
  have bb1 := wt_bd x0
  unfold wp_md_ones
  have k7 : (0 : Int32).toInt = 0 := by decide
  refine wt_T_it (fun s : Int32 × Int32 × wt_St => s.2.2 = σ ∧ 0 ≤ (s.2.1).toInt) (fun s : Int32 × Int32 × wt_St => ((16 : Int32).toInt - s.2.1.toInt + 0).toNat) (fun KK2 z3 I4 hKK2 => ?_) _ _ ?_ ?_
  · skip
    obtain ⟨l5, l6⟩ := I4
    unfold wp_md_ones_B4
    rw [l5]
    have k8 : (16 : Int32).toInt = 16 := by decide
    have bb9 := wt_bd z3.2.1
    refine wt_T_if (fun h10 => ?_) (fun h10 => ?_)
    · skip
      have c11 := wt_cle h10
      refine wt_T_some ?_
      exact rfl
    · skip
      have c12 := wt_ncle h10
      have bb13 := wt_bd z3.1
      have k14 : (31 : Int32).toInt = 31 := by decide
      have bb15 := wt_bd (z3.2.1 &&& 31)
      have bb16 := wt_bd (x0 >>> (z3.2.1 &&& 31))
      have k17 : (1 : Int32).toInt = 1 := by decide
      have bb18 := wt_bd ((x0 >>> (z3.2.1 &&& 31)) &&& (1 : Int32))
      obtain ⟨j19, j19a, j19b⟩ := wt_addI z3.1 ((x0 >>> (z3.2.1 &&& 31)) &&& (1 : Int32))
      refine hKK2 _ ⟨rfl, (wt_nn (B := (16 : Int32)) (by omega) (by first | (rw [l5]; omega) | (rw [l5]; done) | omega))⟩ ?_
      show ((16 : Int32).toInt - (z3.2.1 + (1 : Int32)).toInt + 0).toNat < ((16 : Int32).toInt - z3.2.1.toInt + 0).toNat
      exact wt_mu (by first | (rw [l5]; omega) | (rw [l5]; done) | omega) (by first | (rw [l5]; omega) | (rw [l5]; done) | omega)
  · skip
    have k20 : (16 : Int32).toInt = 16 := by decide
    exact ⟨rfl, (show 0 ≤ ((0 : Int32)).toInt by omega)⟩
  · skip
    have k21 : (16 : Int32).toInt = 16 := by decide
    show ((16 : Int32).toInt - (0 : Int32).toInt + 0).toNat < n
    omega
set_option maxRecDepth 100000 in
set_option maxHeartbeats 4000000 in
theorem wq_md_pieceOn (n : Nat) (hn : 4294967297 < n) (x1 : Int32) (x2 : Int32) (x3 : Int32) (σ : wt_St) (r0 : wt_RI σ) (p0 : 0 ≤ x1.toInt) (p1 : x1.toInt ≤ 3) : wt_T (wp_md_pieceOn n x1 x2 x3 σ) (fun q => q.2 = σ) := by
  have bb1 := wt_bd x1
  have bb2 := wt_bd x2
  have bb3 := wt_bd x3
  unfold wp_md_pieceOn
  have k9 : (0 : Int32).toInt = 0 := by decide
  refine wt_T_it (fun s : Int32 × Int32 × wt_St => s.2.2 = σ ∧ 0 ≤ (s.2.1).toInt) (fun s : Int32 × Int32 × wt_St => ((wt_ga s.2.2 276 (Int32.toNatClampNeg x1)).toInt - s.2.1.toInt + 0).toNat) (fun KK4 z5 I6 hKK4 => ?_) _ _ ?_ ?_
  · skip
    obtain ⟨l7, l8⟩ := I6
    unfold wp_md_pieceOn_B6
    rw [l7]
    have bb10 := wt_tn x1
    have bb11 := wt_bd (wt_ga σ 276 (Int32.toNatClampNeg x1))
    have g12 : 0 ≤ (wt_ga σ 276 (Int32.toNatClampNeg x1)).toInt ∧ (wt_ga σ 276 (Int32.toNatClampNeg x1)).toInt ≤ 108 := wt_R_ga r0 13 rfl 276 (by decide) (by decide) (Int32.toNatClampNeg x1)
    have bb13 := wt_bd z5.2.1
    refine wt_T_gd (wt_ix (by omega) (by omega)) ?_
    refine wt_T_if (fun h14 => ?_) (fun h14 => ?_)
    · skip
      have c15 := wt_cle h14
      refine wt_T_some ?_
      exact rfl
    · skip
      have c16 := wt_ncle h14
      refine wt_T_gd (wt_ix (by omega) (by omega)) ?_
      refine wt_T_gd (wt_ix (by omega) (by omega)) ?_
      have bb17 := wt_tn z5.2.1
      have bb18 := wt_bd (wt_ga σ (278 + (Int32.toNatClampNeg x1)) (Int32.toNatClampNeg z5.2.1))
      have g19 : 0 ≤ (wt_ga σ (278 + (Int32.toNatClampNeg x1)) (Int32.toNatClampNeg z5.2.1)).toInt ∧ (wt_ga σ (278 + (Int32.toNatClampNeg x1)) (Int32.toNatClampNeg z5.2.1)).toInt ≤ 337 := wt_R_ga r0 14 rfl (278 + (Int32.toNatClampNeg x1)) (show 278 ≤ 278 + (Int32.toNatClampNeg x1) by omega) (show 278 + (Int32.toNatClampNeg x1) < 282 by omega) (Int32.toNatClampNeg z5.2.1)
      have k20 : (13 : Int32).toInt = 13 := by decide
      have bb21 := wt_bd ((wt_ga σ (278 + (Int32.toNatClampNeg x1)) (Int32.toNatClampNeg z5.2.1)) / (13 : Int32))
      have dv22 : ((wt_ga σ (278 + (Int32.toNatClampNeg x1)) (Int32.toNatClampNeg z5.2.1)) / (13 : Int32)).toInt = (wt_ga σ (278 + (Int32.toNatClampNeg x1)) (Int32.toNatClampNeg z5.2.1)).toInt / 13 := (wt_divI (x := wt_ga σ (278 + (Int32.toNatClampNeg x1)) (Int32.toNatClampNeg z5.2.1)) (y := (13 : Int32)) (by omega) (by omega)).trans (by rw [show (13 : Int32).toInt = 13 from by decide])
      refine wt_T_if (fun h23 => ?_) (fun h23 => ?_)
      · skip
        have c24 := wt_ceq h23
        have bb25 := wt_bd z5.1
        refine wt_T_if (fun h26 => ?_) (fun h26 => ?_)
        · skip
          have c27 := wt_ceq h26
          refine wt_T_gd (wt_ix (by omega) (by omega)) ?_
          refine wt_T_gd (wt_ix (by omega) (by omega)) ?_
          refine wt_T_some ?_
          exact rfl
        · skip
          have c28 := wt_nceq h26
          unfold wp_md_pieceOn_B55
          have k29 : (1 : Int32).toInt = 1 := by decide
          obtain ⟨j30, j30a, j30b⟩ := wt_addI z5.1 (1 : Int32)
          refine hKK4 _ ⟨rfl, (wt_nn (B := wt_ga z5.2.2 276 (Int32.toNatClampNeg x1)) (by omega) (by first | (rw [l7]; omega) | (rw [l7]; done) | omega))⟩ ?_
          show ((wt_ga σ 276 (Int32.toNatClampNeg x1)).toInt - (z5.2.1 + (1 : Int32)).toInt + 0).toNat < ((wt_ga z5.2.2 276 (Int32.toNatClampNeg x1)).toInt - z5.2.1.toInt + 0).toNat
          exact wt_mu (by first | (rw [l7]; omega) | (rw [l7]; done) | omega) (by first | (rw [l7]; omega) | (rw [l7]; done) | omega)
      · skip
        have c31 := wt_nceq h23
        unfold wp_md_pieceOn_B55
        have bb32 := wt_bd z5.1
        refine hKK4 _ ⟨rfl, (wt_nn (B := wt_ga z5.2.2 276 (Int32.toNatClampNeg x1)) (by omega) (by first | (rw [l7]; omega) | (rw [l7]; done) | omega))⟩ ?_
        show ((wt_ga σ 276 (Int32.toNatClampNeg x1)).toInt - (z5.2.1 + (1 : Int32)).toInt + 0).toNat < ((wt_ga z5.2.2 276 (Int32.toNatClampNeg x1)).toInt - z5.2.1.toInt + 0).toNat
        exact wt_mu (by first | (rw [l7]; omega) | (rw [l7]; done) | omega) (by first | (rw [l7]; omega) | (rw [l7]; done) | omega)
  · skip
    have bb33 := wt_tn x1
    have bb34 := wt_bd (wt_ga σ 276 (Int32.toNatClampNeg x1))
    have g35 : 0 ≤ (wt_ga σ 276 (Int32.toNatClampNeg x1)).toInt ∧ (wt_ga σ 276 (Int32.toNatClampNeg x1)).toInt ≤ 108 := wt_R_ga r0 13 rfl 276 (by decide) (by decide) (Int32.toNatClampNeg x1)
    exact ⟨rfl, (show 0 ≤ ((0 : Int32)).toInt by omega)⟩
  · skip
    have bb36 := wt_tn x1
    have bb37 := wt_bd (wt_ga σ 276 (Int32.toNatClampNeg x1))
    have g38 : 0 ≤ (wt_ga σ 276 (Int32.toNatClampNeg x1)).toInt ∧ (wt_ga σ 276 (Int32.toNatClampNeg x1)).toInt ≤ 108 := wt_R_ga r0 13 rfl 276 (by decide) (by decide) (Int32.toNatClampNeg x1)
    show ((wt_ga σ 276 (Int32.toNatClampNeg x1)).toInt - (0 : Int32).toInt + 0).toNat < n
    omega
theorem wq_md_readOf (n : Nat) (hn : 4294967297 < n) (x1 : Int32) (x2 : Int32) (σ : wt_St) (r0 : wt_RI σ) (p0 : 0 ≤ x1.toInt) (p1 : x1.toInt ≤ 3) (p2 : (wt_ga σ 275 (Int32.toNatClampNeg x1)).toInt ≠ -1) (p3 : 0 ≤ x2.toInt) (p4 : x2.toInt < (wt_ga σ 253 (Int32.toNatClampNeg (wt_ga σ 275 (Int32.toNatClampNeg x1)))).toInt) (p5 : wt_PG σ) : wt_T (wp_md_readOf n x1 x2 σ) (fun q => wt_fr (fun i k => False) (fun i => i = 290 ∨ i = 289) σ q.2 ∧ wt_RI q.2) := by sorry
set_option maxRecDepth 100000 in
set_option maxHeartbeats 4000000 in
theorem wq_md_page (n : Nat) (hn : 4294967297 < n) (x1 : Int32) (x2 : Int32) (σ : wt_St) (r0 : wt_RI σ) (p0 : wt_PG σ) : wt_T (wp_md_page n x1 x2 σ) (fun q => wt_fr (fun i k => (i = 108 ∧ k = 0)) (fun i => i = 290 ∨ i = 289) σ q.2 ∧ wt_RI q.2) := by
  have bb1 := wt_bd x1
  have bb2 := wt_bd x2
  unfold wp_md_page
  obtain ⟨σ3, eσ3⟩ : ∃ z : wt_St, z = wt_sf σ 108 0 (0 : Int32) := ⟨_, rfl⟩
  rw [← eσ3]
  have fσ3 := wt_fr_sf eσ3
  have vσ3 := wt_ceq (wt_v_sf eσ3)
  have k4 : (0 : Int32).toInt = 0 := by decide
  have rσ3 := wt_RI_fno r0 eσ3 (Or.inr (by decide))
  refine wt_T_bi (wq_md_isPage n hn x1 σ3 rσ3) (fun r5 h6 => ?_)
  obtain ⟨e7, pp8⟩ := h6
  have bb9 := wt_bd r5.1
  rw [e7]
  have bb10 := wt_tn x1
  have bb11 := wt_bd (wt_ga σ3 275 (Int32.toNatClampNeg x1))
  have g12 : -1 ≤ (wt_ga σ3 275 (Int32.toNatClampNeg x1)).toInt ∧ (wt_ga σ3 275 (Int32.toNatClampNeg x1)).toInt ≤ 7 := wt_R_ga rσ3 12 rfl 275 (by decide) (by decide) (Int32.toNatClampNeg x1)
  have tt13 : (wt_ga σ3 275 (Int32.toNatClampNeg x1)).toInt = (wt_ga σ 275 (Int32.toNatClampNeg x1)).toInt := congrArg Int32.toInt (fσ3.2 275 (fun z => z) (Int32.toNatClampNeg x1))
  have bb14 := wt_bd (wt_ga σ 275 (Int32.toNatClampNeg x1))
  have g15 : -1 ≤ (wt_ga σ 275 (Int32.toNatClampNeg x1)).toInt ∧ (wt_ga σ 275 (Int32.toNatClampNeg x1)).toInt ≤ 7 := wt_R_ga r0 12 rfl 275 (by decide) (by decide) (Int32.toNatClampNeg x1)
  refine wt_T_if (fun h16 => ?_) (fun h16 => ?_)
  · skip
    have c17 := wt_ceq h16
    unfold wp_md_page_B19
    have k18 : (1 : Int32).toInt = 1 := by decide
    refine wt_T_bi (wq_md_bad n hn (1 : Int32) (1 : Int32) σ3 rσ3 (by omega)) (fun r19 h20 => ?_)
    obtain ⟨f21, ri22, pp23⟩ := h20
    have bb24 := wt_bd r19.1
    have bb25 := wt_bd (wt_gf r19.2 108 0)
    have bb26 := wt_bd (wt_gf σ3 108 0)
    refine wt_T_if (fun h27 => ?_) (fun h27 => ?_)
    · skip
      have c28 := wt_ceq h27
      have k29 : (4 : Int32).toInt = 4 := by decide
      refine wt_T_bi (wq_md_in n hn x2 (0 : Int32) (4 : Int32) r19.2 ri22) (fun r30 h31 => ?_)
      obtain ⟨e32, pp33⟩ := h31
      have bb34 := wt_bd r30.1
      rw [e32]
      refine wt_T_if (fun h35 => ?_) (fun h35 => ?_)
      · skip
        have c36 := wt_ceq h35
        unfold wp_md_page_B41
        have k37 : (2 : Int32).toInt = 2 := by decide
        refine wt_T_bi (wq_md_bad n hn (1 : Int32) (2 : Int32) r19.2 ri22 (by omega)) (fun r38 h39 => ?_)
        obtain ⟨f40, ri41, pp42⟩ := h39
        have bb43 := wt_bd r38.1
        have bb44 := wt_bd (wt_gf r38.2 108 0)
        refine wt_T_if (fun h45 => ?_) (fun h45 => ?_)
        · skip
          have c46 := wt_ceq h45
          refine wt_T_if (fun h47 => ?_) (fun h47 => ?_)
          · skip
            have c48 := wt_cle h47
            have k49 : (3 : Int32).toInt = 3 := by decide
            refine wt_T_if (fun h50 => ?_) (fun h50 => ?_)
            · skip
              have c51 := wt_ceq h50
              refine wt_T_bi (wq_md_leastOf n hn x1 r38.2 ri41 (by omega) (by omega)) (fun r52 h53 => ?_)
              have e54 := h53
              have bb55 := wt_bd r52.1
              rw [e54]
              refine wt_T_some ?_
              exact ⟨(wt_fr.tr (wt_fr.tr (wt_fr.tr wt_fr.rf fσ3 (fun i k h => by (try dsimp only at h); exact (by omega)) (fun i h => h.elim)) f21 (fun i k h => by (try dsimp only at h); exact (by omega)) (fun i h => h.elim)) f40 (fun i k h => by (try dsimp only at h); exact (by omega)) (fun i h => h.elim)), ri41⟩
            · skip
              have c56 := wt_nceq h50
              refine wt_T_it (fun s : Int32 × Int32 × wt_St => s.2.2 = r38.2 ∧ 0 ≤ (s.2.1).toInt) (fun s : Int32 × Int32 × wt_St => ((wt_ga s.2.2 276 (Int32.toNatClampNeg x1)).toInt - s.2.1.toInt + 0).toNat) (fun KK57 z58 I59 hKK57 => ?_) _ _ ?_ ?_
              · skip
                obtain ⟨l60, l61⟩ := I59
                unfold wp_md_page_B91
                rw [l60]
                have bb62 := wt_bd (wt_ga r38.2 276 (Int32.toNatClampNeg x1))
                have g63 : 0 ≤ (wt_ga r38.2 276 (Int32.toNatClampNeg x1)).toInt ∧ (wt_ga r38.2 276 (Int32.toNatClampNeg x1)).toInt ≤ 108 := wt_R_ga ri41 13 rfl 276 (by decide) (by decide) (Int32.toNatClampNeg x1)
                have tt64 : (wt_ga r38.2 276 (Int32.toNatClampNeg x1)).toInt = (wt_ga r19.2 276 (Int32.toNatClampNeg x1)).toInt := congrArg Int32.toInt (f40.2 276 (fun z => z) (Int32.toNatClampNeg x1))
                have bb65 := wt_bd (wt_ga r19.2 276 (Int32.toNatClampNeg x1))
                have g66 : 0 ≤ (wt_ga r19.2 276 (Int32.toNatClampNeg x1)).toInt ∧ (wt_ga r19.2 276 (Int32.toNatClampNeg x1)).toInt ≤ 108 := wt_R_ga ri22 13 rfl 276 (by decide) (by decide) (Int32.toNatClampNeg x1)
                have tt67 : (wt_ga r19.2 276 (Int32.toNatClampNeg x1)).toInt = (wt_ga σ3 276 (Int32.toNatClampNeg x1)).toInt := congrArg Int32.toInt (f21.2 276 (fun z => z) (Int32.toNatClampNeg x1))
                have bb68 := wt_bd (wt_ga σ3 276 (Int32.toNatClampNeg x1))
                have g69 : 0 ≤ (wt_ga σ3 276 (Int32.toNatClampNeg x1)).toInt ∧ (wt_ga σ3 276 (Int32.toNatClampNeg x1)).toInt ≤ 108 := wt_R_ga rσ3 13 rfl 276 (by decide) (by decide) (Int32.toNatClampNeg x1)
                have tt70 : (wt_ga σ3 276 (Int32.toNatClampNeg x1)).toInt = (wt_ga σ 276 (Int32.toNatClampNeg x1)).toInt := congrArg Int32.toInt (fσ3.2 276 (fun z => z) (Int32.toNatClampNeg x1))
                have bb71 := wt_bd (wt_ga σ 276 (Int32.toNatClampNeg x1))
                have g72 : 0 ≤ (wt_ga σ 276 (Int32.toNatClampNeg x1)).toInt ∧ (wt_ga σ 276 (Int32.toNatClampNeg x1)).toInt ≤ 108 := wt_R_ga r0 13 rfl 276 (by decide) (by decide) (Int32.toNatClampNeg x1)
                have bb73 := wt_bd z58.2.1
                refine wt_T_gd (wt_ix (by omega) (by omega)) ?_
                refine wt_T_if (fun h74 => ?_) (fun h74 => ?_)
                · skip
                  have c75 := wt_cle h74
                  unfold wp_md_page_B142
                  have bb82 := wt_bd z58.1
                  refine wt_T_it (fun s : Int32 × Int32 × wt_St => wt_fr (fun i k => False) (fun i => i = 290 ∨ i = 289) r38.2 s.2.2 ∧ 0 ≤ (s.2.1).toInt ∧ wt_RI s.2.2) (fun s : Int32 × Int32 × wt_St => (12 - s.2.1.toInt).toNat) (fun KK76 z77 I78 hKK76 => ?_) _ _ ?_ ?_
                  · skip
                    obtain ⟨l79, l80, l81⟩ := I78
                    unfold wp_md_page_B145
                    have bb83 := wt_bd z77.2.1
                    refine wt_T_gd (wt_ix (by omega) (by omega)) ?_
                    have bb84 := wt_bd (wt_ga z77.2.2 275 (Int32.toNatClampNeg x1))
                    have g85 : -1 ≤ (wt_ga z77.2.2 275 (Int32.toNatClampNeg x1)).toInt ∧ (wt_ga z77.2.2 275 (Int32.toNatClampNeg x1)).toInt ≤ 7 := wt_R_ga l81 12 rfl 275 (by decide) (by decide) (Int32.toNatClampNeg x1)
                    have tt86 : (wt_ga z77.2.2 275 (Int32.toNatClampNeg x1)).toInt = (wt_ga r38.2 275 (Int32.toNatClampNeg x1)).toInt := congrArg Int32.toInt (l79.2 275 (by (try dsimp only); omega) (Int32.toNatClampNeg x1))
                    have bb87 := wt_bd (wt_ga r38.2 275 (Int32.toNatClampNeg x1))
                    have g88 : -1 ≤ (wt_ga r38.2 275 (Int32.toNatClampNeg x1)).toInt ∧ (wt_ga r38.2 275 (Int32.toNatClampNeg x1)).toInt ≤ 7 := wt_R_ga ri41 12 rfl 275 (by decide) (by decide) (Int32.toNatClampNeg x1)
                    have tt89 : (wt_ga r38.2 275 (Int32.toNatClampNeg x1)).toInt = (wt_ga r19.2 275 (Int32.toNatClampNeg x1)).toInt := congrArg Int32.toInt (f40.2 275 (fun z => z) (Int32.toNatClampNeg x1))
                    have bb90 := wt_bd (wt_ga r19.2 275 (Int32.toNatClampNeg x1))
                    have g91 : -1 ≤ (wt_ga r19.2 275 (Int32.toNatClampNeg x1)).toInt ∧ (wt_ga r19.2 275 (Int32.toNatClampNeg x1)).toInt ≤ 7 := wt_R_ga ri22 12 rfl 275 (by decide) (by decide) (Int32.toNatClampNeg x1)
                    have tt92 : (wt_ga r19.2 275 (Int32.toNatClampNeg x1)).toInt = (wt_ga σ3 275 (Int32.toNatClampNeg x1)).toInt := congrArg Int32.toInt (f21.2 275 (fun z => z) (Int32.toNatClampNeg x1))
                    refine wt_T_gd (wt_ix (by omega) (by omega)) ?_
                    have bb93 := wt_tn (wt_ga z77.2.2 275 (Int32.toNatClampNeg x1))
                    have bb94 := wt_bd (wt_ga z77.2.2 253 (Int32.toNatClampNeg (wt_ga z77.2.2 275 (Int32.toNatClampNeg x1))))
                    have g95 : 0 ≤ (wt_ga z77.2.2 253 (Int32.toNatClampNeg (wt_ga z77.2.2 275 (Int32.toNatClampNeg x1)))).toInt ∧ (wt_ga z77.2.2 253 (Int32.toNatClampNeg (wt_ga z77.2.2 275 (Int32.toNatClampNeg x1)))).toInt ≤ 12 := wt_R_ga l81 9 rfl 253 (by decide) (by decide) (Int32.toNatClampNeg (wt_ga z77.2.2 275 (Int32.toNatClampNeg x1)))
                    have tt96 : (wt_ga z77.2.2 253 (Int32.toNatClampNeg (wt_ga z77.2.2 275 (Int32.toNatClampNeg x1)))).toInt = (wt_ga r38.2 253 (Int32.toNatClampNeg (wt_ga z77.2.2 275 (Int32.toNatClampNeg x1)))).toInt := congrArg Int32.toInt (l79.2 253 (by (try dsimp only); omega) (Int32.toNatClampNeg (wt_ga z77.2.2 275 (Int32.toNatClampNeg x1))))
                    have bb97 := wt_bd (wt_ga r38.2 253 (Int32.toNatClampNeg (wt_ga z77.2.2 275 (Int32.toNatClampNeg x1))))
                    have g98 : 0 ≤ (wt_ga r38.2 253 (Int32.toNatClampNeg (wt_ga z77.2.2 275 (Int32.toNatClampNeg x1)))).toInt ∧ (wt_ga r38.2 253 (Int32.toNatClampNeg (wt_ga z77.2.2 275 (Int32.toNatClampNeg x1)))).toInt ≤ 12 := wt_R_ga ri41 9 rfl 253 (by decide) (by decide) (Int32.toNatClampNeg (wt_ga z77.2.2 275 (Int32.toNatClampNeg x1)))
                    have tt99 : (wt_ga r38.2 253 (Int32.toNatClampNeg (wt_ga z77.2.2 275 (Int32.toNatClampNeg x1)))).toInt = (wt_ga r19.2 253 (Int32.toNatClampNeg (wt_ga z77.2.2 275 (Int32.toNatClampNeg x1)))).toInt := congrArg Int32.toInt (f40.2 253 (fun z => z) (Int32.toNatClampNeg (wt_ga z77.2.2 275 (Int32.toNatClampNeg x1))))
                    have bb100 := wt_bd (wt_ga r19.2 253 (Int32.toNatClampNeg (wt_ga z77.2.2 275 (Int32.toNatClampNeg x1))))
                    have g101 : 0 ≤ (wt_ga r19.2 253 (Int32.toNatClampNeg (wt_ga z77.2.2 275 (Int32.toNatClampNeg x1)))).toInt ∧ (wt_ga r19.2 253 (Int32.toNatClampNeg (wt_ga z77.2.2 275 (Int32.toNatClampNeg x1)))).toInt ≤ 12 := wt_R_ga ri22 9 rfl 253 (by decide) (by decide) (Int32.toNatClampNeg (wt_ga z77.2.2 275 (Int32.toNatClampNeg x1)))
                    have tt102 : (wt_ga r19.2 253 (Int32.toNatClampNeg (wt_ga z77.2.2 275 (Int32.toNatClampNeg x1)))).toInt = (wt_ga σ3 253 (Int32.toNatClampNeg (wt_ga z77.2.2 275 (Int32.toNatClampNeg x1)))).toInt := congrArg Int32.toInt (f21.2 253 (fun z => z) (Int32.toNatClampNeg (wt_ga z77.2.2 275 (Int32.toNatClampNeg x1))))
                    have bb103 := wt_bd (wt_ga σ3 253 (Int32.toNatClampNeg (wt_ga z77.2.2 275 (Int32.toNatClampNeg x1))))
                    have g104 : 0 ≤ (wt_ga σ3 253 (Int32.toNatClampNeg (wt_ga z77.2.2 275 (Int32.toNatClampNeg x1)))).toInt ∧ (wt_ga σ3 253 (Int32.toNatClampNeg (wt_ga z77.2.2 275 (Int32.toNatClampNeg x1)))).toInt ≤ 12 := wt_R_ga rσ3 9 rfl 253 (by decide) (by decide) (Int32.toNatClampNeg (wt_ga z77.2.2 275 (Int32.toNatClampNeg x1)))
                    have tt105 : (wt_ga σ3 253 (Int32.toNatClampNeg (wt_ga z77.2.2 275 (Int32.toNatClampNeg x1)))).toInt = (wt_ga σ 253 (Int32.toNatClampNeg (wt_ga z77.2.2 275 (Int32.toNatClampNeg x1)))).toInt := congrArg Int32.toInt (fσ3.2 253 (fun z => z) (Int32.toNatClampNeg (wt_ga z77.2.2 275 (Int32.toNatClampNeg x1))))
                    have bb106 := wt_bd (wt_ga σ 253 (Int32.toNatClampNeg (wt_ga z77.2.2 275 (Int32.toNatClampNeg x1))))
                    have g107 : 0 ≤ (wt_ga σ 253 (Int32.toNatClampNeg (wt_ga z77.2.2 275 (Int32.toNatClampNeg x1)))).toInt ∧ (wt_ga σ 253 (Int32.toNatClampNeg (wt_ga z77.2.2 275 (Int32.toNatClampNeg x1)))).toInt ≤ 12 := wt_R_ga r0 9 rfl 253 (by decide) (by decide) (Int32.toNatClampNeg (wt_ga z77.2.2 275 (Int32.toNatClampNeg x1)))
                    refine wt_T_if (fun h108 => ?_) (fun h108 => ?_)
                    · skip
                      have c109 := wt_cle h108
                      refine wt_T_some ?_
                      exact ⟨(wt_fr.tr (wt_fr.tr (wt_fr.tr (wt_fr.tr wt_fr.rf fσ3 (fun i k h => by (try dsimp only at h); exact (by omega)) (fun i h => h.elim)) f21 (fun i k h => by (try dsimp only at h); exact (by omega)) (fun i h => h.elim)) f40 (fun i k h => by (try dsimp only at h); exact (by omega)) (fun i h => h.elim)) l79 (fun i k h => h.elim) (fun i h => by (try dsimp only at h); rcases h with h | h; exact Or.inl (by omega); exact Or.inr ((by omega)))), l81⟩
                    · skip
                      have c110 := wt_ncle h108
                      refine wt_T_if (fun h111 => ?_) (fun h111 => ?_)
                      · skip
                        have c112 := wt_ceq h111
                        refine wt_T_bi (wq_md_readOf n hn x1 z77.2.1 z77.2.2 l81 (by omega) (by omega) (by omega) (by omega) (by omega) (wt_PG_fr (F := fun i k => (i = 108 ∧ k = 0)) (A := fun i => i = 290 ∨ i = 289) r0 p0 (wt_fr.tr (wt_fr.tr (wt_fr.tr (wt_fr.tr wt_fr.rf fσ3 (fun i k h => by (try dsimp only at h); exact (by omega)) (fun i h => h.elim)) f21 (fun i k h => by (try dsimp only at h); exact (by omega)) (fun i h => h.elim)) f40 (fun i k h => by (try dsimp only at h); exact (by omega)) (fun i h => h.elim)) l79 (fun i k h => h.elim) (fun i h => by (try dsimp only at h); rcases h with h | h; exact Or.inl (by omega); exact Or.inr ((by omega)))) (fun i hi => by (try dsimp only); unfold wt_PA at hi; omega))) (fun r113 h114 => ?_)
                        obtain ⟨f115, ri116⟩ := h114
                        have bb117 := wt_bd r113.1
                        refine wt_T_gd (wt_ix (by omega) (by omega)) ?_
                        have bb118 := wt_bd (wt_ga r113.2 275 (Int32.toNatClampNeg x1))
                        have g119 : -1 ≤ (wt_ga r113.2 275 (Int32.toNatClampNeg x1)).toInt ∧ (wt_ga r113.2 275 (Int32.toNatClampNeg x1)).toInt ≤ 7 := wt_R_ga ri116 12 rfl 275 (by decide) (by decide) (Int32.toNatClampNeg x1)
                        have tt120 : (wt_ga r113.2 275 (Int32.toNatClampNeg x1)).toInt = (wt_ga z77.2.2 275 (Int32.toNatClampNeg x1)).toInt := congrArg Int32.toInt (f115.2 275 (by (try dsimp only); omega) (Int32.toNatClampNeg x1))
                        refine wt_T_gd (wt_ix (by omega) (by omega)) ?_
                        refine wt_T_gd (wt_ix (by omega) (by omega)) ?_
                        have bb121 := wt_tn (wt_ga r113.2 275 (Int32.toNatClampNeg x1))
                        have bb122 := wt_tn z77.2.1
                        have bb123 := wt_bd (wt_ga r113.2 (255 + (Int32.toNatClampNeg (wt_ga r113.2 275 (Int32.toNatClampNeg x1)))) (Int32.toNatClampNeg z77.2.1))
                        have g124 : 0 ≤ (wt_ga r113.2 (255 + (Int32.toNatClampNeg (wt_ga r113.2 275 (Int32.toNatClampNeg x1)))) (Int32.toNatClampNeg z77.2.1)).toInt ∧ (wt_ga r113.2 (255 + (Int32.toNatClampNeg (wt_ga r113.2 275 (Int32.toNatClampNeg x1)))) (Int32.toNatClampNeg z77.2.1)).toInt ≤ 59 := wt_R_ga ri116 10 rfl (255 + (Int32.toNatClampNeg (wt_ga r113.2 275 (Int32.toNatClampNeg x1)))) (show 255 ≤ 255 + (Int32.toNatClampNeg (wt_ga r113.2 275 (Int32.toNatClampNeg x1))) by omega) (show 255 + (Int32.toNatClampNeg (wt_ga r113.2 275 (Int32.toNatClampNeg x1))) < 263 by omega) (Int32.toNatClampNeg z77.2.1)
                        have tt125 : (wt_ga r113.2 (255 + (Int32.toNatClampNeg (wt_ga r113.2 275 (Int32.toNatClampNeg x1)))) (Int32.toNatClampNeg z77.2.1)).toInt = (wt_ga z77.2.2 (255 + (Int32.toNatClampNeg (wt_ga r113.2 275 (Int32.toNatClampNeg x1)))) (Int32.toNatClampNeg z77.2.1)).toInt := congrArg Int32.toInt (f115.2 (255 + (Int32.toNatClampNeg (wt_ga r113.2 275 (Int32.toNatClampNeg x1)))) (by (try dsimp only); omega) (Int32.toNatClampNeg z77.2.1))
                        have bb126 := wt_bd (wt_ga z77.2.2 (255 + (Int32.toNatClampNeg (wt_ga r113.2 275 (Int32.toNatClampNeg x1)))) (Int32.toNatClampNeg z77.2.1))
                        have g127 : 0 ≤ (wt_ga z77.2.2 (255 + (Int32.toNatClampNeg (wt_ga r113.2 275 (Int32.toNatClampNeg x1)))) (Int32.toNatClampNeg z77.2.1)).toInt ∧ (wt_ga z77.2.2 (255 + (Int32.toNatClampNeg (wt_ga r113.2 275 (Int32.toNatClampNeg x1)))) (Int32.toNatClampNeg z77.2.1)).toInt ≤ 59 := wt_R_ga l81 10 rfl (255 + (Int32.toNatClampNeg (wt_ga r113.2 275 (Int32.toNatClampNeg x1)))) (show 255 ≤ 255 + (Int32.toNatClampNeg (wt_ga r113.2 275 (Int32.toNatClampNeg x1))) by omega) (show 255 + (Int32.toNatClampNeg (wt_ga r113.2 275 (Int32.toNatClampNeg x1))) < 263 by omega) (Int32.toNatClampNeg z77.2.1)
                        have tt128 : (wt_ga z77.2.2 (255 + (Int32.toNatClampNeg (wt_ga r113.2 275 (Int32.toNatClampNeg x1)))) (Int32.toNatClampNeg z77.2.1)).toInt = (wt_ga r38.2 (255 + (Int32.toNatClampNeg (wt_ga r113.2 275 (Int32.toNatClampNeg x1)))) (Int32.toNatClampNeg z77.2.1)).toInt := congrArg Int32.toInt (l79.2 (255 + (Int32.toNatClampNeg (wt_ga r113.2 275 (Int32.toNatClampNeg x1)))) (by (try dsimp only); omega) (Int32.toNatClampNeg z77.2.1))
                        have bb129 := wt_bd (wt_ga r38.2 (255 + (Int32.toNatClampNeg (wt_ga r113.2 275 (Int32.toNatClampNeg x1)))) (Int32.toNatClampNeg z77.2.1))
                        have g130 : 0 ≤ (wt_ga r38.2 (255 + (Int32.toNatClampNeg (wt_ga r113.2 275 (Int32.toNatClampNeg x1)))) (Int32.toNatClampNeg z77.2.1)).toInt ∧ (wt_ga r38.2 (255 + (Int32.toNatClampNeg (wt_ga r113.2 275 (Int32.toNatClampNeg x1)))) (Int32.toNatClampNeg z77.2.1)).toInt ≤ 59 := wt_R_ga ri41 10 rfl (255 + (Int32.toNatClampNeg (wt_ga r113.2 275 (Int32.toNatClampNeg x1)))) (show 255 ≤ 255 + (Int32.toNatClampNeg (wt_ga r113.2 275 (Int32.toNatClampNeg x1))) by omega) (show 255 + (Int32.toNatClampNeg (wt_ga r113.2 275 (Int32.toNatClampNeg x1))) < 263 by omega) (Int32.toNatClampNeg z77.2.1)
                        have tt131 : (wt_ga r38.2 (255 + (Int32.toNatClampNeg (wt_ga r113.2 275 (Int32.toNatClampNeg x1)))) (Int32.toNatClampNeg z77.2.1)).toInt = (wt_ga r19.2 (255 + (Int32.toNatClampNeg (wt_ga r113.2 275 (Int32.toNatClampNeg x1)))) (Int32.toNatClampNeg z77.2.1)).toInt := congrArg Int32.toInt (f40.2 (255 + (Int32.toNatClampNeg (wt_ga r113.2 275 (Int32.toNatClampNeg x1)))) (fun z => z) (Int32.toNatClampNeg z77.2.1))
                        have bb132 := wt_bd (wt_ga r19.2 (255 + (Int32.toNatClampNeg (wt_ga r113.2 275 (Int32.toNatClampNeg x1)))) (Int32.toNatClampNeg z77.2.1))
                        have g133 : 0 ≤ (wt_ga r19.2 (255 + (Int32.toNatClampNeg (wt_ga r113.2 275 (Int32.toNatClampNeg x1)))) (Int32.toNatClampNeg z77.2.1)).toInt ∧ (wt_ga r19.2 (255 + (Int32.toNatClampNeg (wt_ga r113.2 275 (Int32.toNatClampNeg x1)))) (Int32.toNatClampNeg z77.2.1)).toInt ≤ 59 := wt_R_ga ri22 10 rfl (255 + (Int32.toNatClampNeg (wt_ga r113.2 275 (Int32.toNatClampNeg x1)))) (show 255 ≤ 255 + (Int32.toNatClampNeg (wt_ga r113.2 275 (Int32.toNatClampNeg x1))) by omega) (show 255 + (Int32.toNatClampNeg (wt_ga r113.2 275 (Int32.toNatClampNeg x1))) < 263 by omega) (Int32.toNatClampNeg z77.2.1)
                        have tt134 : (wt_ga r19.2 (255 + (Int32.toNatClampNeg (wt_ga r113.2 275 (Int32.toNatClampNeg x1)))) (Int32.toNatClampNeg z77.2.1)).toInt = (wt_ga σ3 (255 + (Int32.toNatClampNeg (wt_ga r113.2 275 (Int32.toNatClampNeg x1)))) (Int32.toNatClampNeg z77.2.1)).toInt := congrArg Int32.toInt (f21.2 (255 + (Int32.toNatClampNeg (wt_ga r113.2 275 (Int32.toNatClampNeg x1)))) (fun z => z) (Int32.toNatClampNeg z77.2.1))
                        have bb135 := wt_bd (wt_ga σ3 (255 + (Int32.toNatClampNeg (wt_ga r113.2 275 (Int32.toNatClampNeg x1)))) (Int32.toNatClampNeg z77.2.1))
                        have g136 : 0 ≤ (wt_ga σ3 (255 + (Int32.toNatClampNeg (wt_ga r113.2 275 (Int32.toNatClampNeg x1)))) (Int32.toNatClampNeg z77.2.1)).toInt ∧ (wt_ga σ3 (255 + (Int32.toNatClampNeg (wt_ga r113.2 275 (Int32.toNatClampNeg x1)))) (Int32.toNatClampNeg z77.2.1)).toInt ≤ 59 := wt_R_ga rσ3 10 rfl (255 + (Int32.toNatClampNeg (wt_ga r113.2 275 (Int32.toNatClampNeg x1)))) (show 255 ≤ 255 + (Int32.toNatClampNeg (wt_ga r113.2 275 (Int32.toNatClampNeg x1))) by omega) (show 255 + (Int32.toNatClampNeg (wt_ga r113.2 275 (Int32.toNatClampNeg x1))) < 263 by omega) (Int32.toNatClampNeg z77.2.1)
                        have tt137 : (wt_ga σ3 (255 + (Int32.toNatClampNeg (wt_ga r113.2 275 (Int32.toNatClampNeg x1)))) (Int32.toNatClampNeg z77.2.1)).toInt = (wt_ga σ (255 + (Int32.toNatClampNeg (wt_ga r113.2 275 (Int32.toNatClampNeg x1)))) (Int32.toNatClampNeg z77.2.1)).toInt := congrArg Int32.toInt (fσ3.2 (255 + (Int32.toNatClampNeg (wt_ga r113.2 275 (Int32.toNatClampNeg x1)))) (fun z => z) (Int32.toNatClampNeg z77.2.1))
                        have bb138 := wt_bd (wt_ga σ (255 + (Int32.toNatClampNeg (wt_ga r113.2 275 (Int32.toNatClampNeg x1)))) (Int32.toNatClampNeg z77.2.1))
                        have g139 : 0 ≤ (wt_ga σ (255 + (Int32.toNatClampNeg (wt_ga r113.2 275 (Int32.toNatClampNeg x1)))) (Int32.toNatClampNeg z77.2.1)).toInt ∧ (wt_ga σ (255 + (Int32.toNatClampNeg (wt_ga r113.2 275 (Int32.toNatClampNeg x1)))) (Int32.toNatClampNeg z77.2.1)).toInt ≤ 59 := wt_R_ga r0 10 rfl (255 + (Int32.toNatClampNeg (wt_ga r113.2 275 (Int32.toNatClampNeg x1)))) (show 255 ≤ 255 + (Int32.toNatClampNeg (wt_ga r113.2 275 (Int32.toNatClampNeg x1))) by omega) (show 255 + (Int32.toNatClampNeg (wt_ga r113.2 275 (Int32.toNatClampNeg x1))) < 263 by omega) (Int32.toNatClampNeg z77.2.1)
                        refine wt_T_if (fun h140 => ?_) (fun h140 => ?_)
                        · skip
                          have c141 := wt_ceq h140
                          unfold wp_md_page_B196
                          have bb142 := wt_bd z77.1
                          obtain ⟨j143, j143a, j143b⟩ := wt_addI z77.1 (0 : Int32)
                          obtain ⟨j144, j144a, j144b⟩ := wt_addI z77.2.1 (1 : Int32)
                          refine hKK76 _ ⟨(wt_fr.tr (wt_fr.tr wt_fr.rf l79 (fun i k h => h.elim) (fun i h => by (try dsimp only at h); rcases h with h | h; exact Or.inl (by omega); exact Or.inr ((by omega)))) f115 (fun i k h => h.elim) (fun i h => by (try dsimp only at h); rcases h with h | h; exact Or.inl (by omega); exact Or.inr ((by omega)))), (show 0 ≤ ((z77.2.1 + (1 : Int32))).toInt by omega), ri116⟩ ?_
                          show (12 - (z77.2.1 + (1 : Int32)).toInt).toNat < (12 - z77.2.1.toInt).toNat
                          omega
                        · skip
                          have c145 := wt_nceq h140
                          unfold wp_md_page_B196
                          have bb146 := wt_bd z77.1
                          obtain ⟨j147, j147a, j147b⟩ := wt_addI z77.1 (1 : Int32)
                          obtain ⟨j148, j148a, j148b⟩ := wt_addI z77.2.1 (1 : Int32)
                          refine hKK76 _ ⟨(wt_fr.tr (wt_fr.tr wt_fr.rf l79 (fun i k h => h.elim) (fun i h => by (try dsimp only at h); rcases h with h | h; exact Or.inl (by omega); exact Or.inr ((by omega)))) f115 (fun i k h => h.elim) (fun i h => by (try dsimp only at h); rcases h with h | h; exact Or.inl (by omega); exact Or.inr ((by omega)))), (show 0 ≤ ((z77.2.1 + (1 : Int32))).toInt by omega), ri116⟩ ?_
                          show (12 - (z77.2.1 + (1 : Int32)).toInt).toNat < (12 - z77.2.1.toInt).toNat
                          omega
                      · skip
                        have c149 := wt_nceq h111
                        refine wt_T_some ?_
                        exact ⟨(wt_fr.tr (wt_fr.tr (wt_fr.tr (wt_fr.tr wt_fr.rf fσ3 (fun i k h => by (try dsimp only at h); exact (by omega)) (fun i h => h.elim)) f21 (fun i k h => by (try dsimp only at h); exact (by omega)) (fun i h => h.elim)) f40 (fun i k h => by (try dsimp only at h); exact (by omega)) (fun i h => h.elim)) l79 (fun i k h => h.elim) (fun i h => by (try dsimp only at h); rcases h with h | h; exact Or.inl (by omega); exact Or.inr ((by omega)))), l81⟩
                  · skip
                    exact ⟨wt_fr.rf, (show 0 ≤ ((0 : Int32)).toInt by omega), ri41⟩
                  · skip
                    show (12 - (0 : Int32).toInt).toNat < n
                    omega
                · skip
                  have c150 := wt_ncle h74
                  refine wt_T_if (fun h151 => ?_) (fun h151 => ?_)
                  · skip
                    have c152 := wt_ceq h151
                    refine wt_T_gd (wt_ix (by omega) (by omega)) ?_
                    refine wt_T_gd (wt_ix (by omega) (by omega)) ?_
                    have bb153 := wt_tn z58.2.1
                    have bb154 := wt_bd (wt_ga r38.2 (278 + (Int32.toNatClampNeg x1)) (Int32.toNatClampNeg z58.2.1))
                    have g155 : 0 ≤ (wt_ga r38.2 (278 + (Int32.toNatClampNeg x1)) (Int32.toNatClampNeg z58.2.1)).toInt ∧ (wt_ga r38.2 (278 + (Int32.toNatClampNeg x1)) (Int32.toNatClampNeg z58.2.1)).toInt ≤ 337 := wt_R_ga ri41 14 rfl (278 + (Int32.toNatClampNeg x1)) (show 278 ≤ 278 + (Int32.toNatClampNeg x1) by omega) (show 278 + (Int32.toNatClampNeg x1) < 282 by omega) (Int32.toNatClampNeg z58.2.1)
                    have tt156 : (wt_ga r38.2 (278 + (Int32.toNatClampNeg x1)) (Int32.toNatClampNeg z58.2.1)).toInt = (wt_ga r19.2 (278 + (Int32.toNatClampNeg x1)) (Int32.toNatClampNeg z58.2.1)).toInt := congrArg Int32.toInt (f40.2 (278 + (Int32.toNatClampNeg x1)) (fun z => z) (Int32.toNatClampNeg z58.2.1))
                    have bb157 := wt_bd (wt_ga r19.2 (278 + (Int32.toNatClampNeg x1)) (Int32.toNatClampNeg z58.2.1))
                    have g158 : 0 ≤ (wt_ga r19.2 (278 + (Int32.toNatClampNeg x1)) (Int32.toNatClampNeg z58.2.1)).toInt ∧ (wt_ga r19.2 (278 + (Int32.toNatClampNeg x1)) (Int32.toNatClampNeg z58.2.1)).toInt ≤ 337 := wt_R_ga ri22 14 rfl (278 + (Int32.toNatClampNeg x1)) (show 278 ≤ 278 + (Int32.toNatClampNeg x1) by omega) (show 278 + (Int32.toNatClampNeg x1) < 282 by omega) (Int32.toNatClampNeg z58.2.1)
                    have tt159 : (wt_ga r19.2 (278 + (Int32.toNatClampNeg x1)) (Int32.toNatClampNeg z58.2.1)).toInt = (wt_ga σ3 (278 + (Int32.toNatClampNeg x1)) (Int32.toNatClampNeg z58.2.1)).toInt := congrArg Int32.toInt (f21.2 (278 + (Int32.toNatClampNeg x1)) (fun z => z) (Int32.toNatClampNeg z58.2.1))
                    have bb160 := wt_bd (wt_ga σ3 (278 + (Int32.toNatClampNeg x1)) (Int32.toNatClampNeg z58.2.1))
                    have g161 : 0 ≤ (wt_ga σ3 (278 + (Int32.toNatClampNeg x1)) (Int32.toNatClampNeg z58.2.1)).toInt ∧ (wt_ga σ3 (278 + (Int32.toNatClampNeg x1)) (Int32.toNatClampNeg z58.2.1)).toInt ≤ 337 := wt_R_ga rσ3 14 rfl (278 + (Int32.toNatClampNeg x1)) (show 278 ≤ 278 + (Int32.toNatClampNeg x1) by omega) (show 278 + (Int32.toNatClampNeg x1) < 282 by omega) (Int32.toNatClampNeg z58.2.1)
                    have tt162 : (wt_ga σ3 (278 + (Int32.toNatClampNeg x1)) (Int32.toNatClampNeg z58.2.1)).toInt = (wt_ga σ (278 + (Int32.toNatClampNeg x1)) (Int32.toNatClampNeg z58.2.1)).toInt := congrArg Int32.toInt (fσ3.2 (278 + (Int32.toNatClampNeg x1)) (fun z => z) (Int32.toNatClampNeg z58.2.1))
                    have bb163 := wt_bd (wt_ga σ (278 + (Int32.toNatClampNeg x1)) (Int32.toNatClampNeg z58.2.1))
                    have g164 : 0 ≤ (wt_ga σ (278 + (Int32.toNatClampNeg x1)) (Int32.toNatClampNeg z58.2.1)).toInt ∧ (wt_ga σ (278 + (Int32.toNatClampNeg x1)) (Int32.toNatClampNeg z58.2.1)).toInt ≤ 337 := wt_R_ga r0 14 rfl (278 + (Int32.toNatClampNeg x1)) (show 278 ≤ 278 + (Int32.toNatClampNeg x1) by omega) (show 278 + (Int32.toNatClampNeg x1) < 282 by omega) (Int32.toNatClampNeg z58.2.1)
                    refine wt_T_gd (wt_ix (by omega) (by omega)) ?_
                    have bb165 := wt_bd (wt_gf r38.2 108 25)
                    have tt166 : (wt_gf r38.2 108 25).toInt = (wt_gf r19.2 108 25).toInt := congrArg Int32.toInt (f40.1 108 25 (by (try dsimp only); omega))
                    have bb167 := wt_bd (wt_gf r19.2 108 25)
                    have tt168 : (wt_gf r19.2 108 25).toInt = (wt_gf σ3 108 25).toInt := congrArg Int32.toInt (f21.1 108 25 (by (try dsimp only); omega))
                    have bb169 := wt_bd (wt_gf σ3 108 25)
                    have tt170 : (wt_gf σ3 108 25).toInt = (wt_gf σ 108 25).toInt := congrArg Int32.toInt (fσ3.1 108 25 (by (try dsimp only); omega))
                    have bb171 := wt_bd (wt_gf σ 108 25)
                    have bb172 := wt_tn (wt_ga r38.2 (278 + (Int32.toNatClampNeg x1)) (Int32.toNatClampNeg z58.2.1))
                    have bb173 := wt_bd (wt_ga r38.2 121 (Int32.toNatClampNeg (wt_ga r38.2 (278 + (Int32.toNatClampNeg x1)) (Int32.toNatClampNeg z58.2.1))))
                    have tt174 : (wt_ga r38.2 121 (Int32.toNatClampNeg (wt_ga r38.2 (278 + (Int32.toNatClampNeg x1)) (Int32.toNatClampNeg z58.2.1)))).toInt = (wt_ga r19.2 121 (Int32.toNatClampNeg (wt_ga r38.2 (278 + (Int32.toNatClampNeg x1)) (Int32.toNatClampNeg z58.2.1)))).toInt := congrArg Int32.toInt (f40.2 121 (fun z => z) (Int32.toNatClampNeg (wt_ga r38.2 (278 + (Int32.toNatClampNeg x1)) (Int32.toNatClampNeg z58.2.1))))
                    have bb175 := wt_bd (wt_ga r19.2 121 (Int32.toNatClampNeg (wt_ga r38.2 (278 + (Int32.toNatClampNeg x1)) (Int32.toNatClampNeg z58.2.1))))
                    have tt176 : (wt_ga r19.2 121 (Int32.toNatClampNeg (wt_ga r38.2 (278 + (Int32.toNatClampNeg x1)) (Int32.toNatClampNeg z58.2.1)))).toInt = (wt_ga σ3 121 (Int32.toNatClampNeg (wt_ga r38.2 (278 + (Int32.toNatClampNeg x1)) (Int32.toNatClampNeg z58.2.1)))).toInt := congrArg Int32.toInt (f21.2 121 (fun z => z) (Int32.toNatClampNeg (wt_ga r38.2 (278 + (Int32.toNatClampNeg x1)) (Int32.toNatClampNeg z58.2.1))))
                    have bb177 := wt_bd (wt_ga σ3 121 (Int32.toNatClampNeg (wt_ga r38.2 (278 + (Int32.toNatClampNeg x1)) (Int32.toNatClampNeg z58.2.1))))
                    have tt178 : (wt_ga σ3 121 (Int32.toNatClampNeg (wt_ga r38.2 (278 + (Int32.toNatClampNeg x1)) (Int32.toNatClampNeg z58.2.1)))).toInt = (wt_ga σ 121 (Int32.toNatClampNeg (wt_ga r38.2 (278 + (Int32.toNatClampNeg x1)) (Int32.toNatClampNeg z58.2.1)))).toInt := congrArg Int32.toInt (fσ3.2 121 (fun z => z) (Int32.toNatClampNeg (wt_ga r38.2 (278 + (Int32.toNatClampNeg x1)) (Int32.toNatClampNeg z58.2.1))))
                    have bb179 := wt_bd (wt_ga σ 121 (Int32.toNatClampNeg (wt_ga r38.2 (278 + (Int32.toNatClampNeg x1)) (Int32.toNatClampNeg z58.2.1))))
                    refine wt_T_if (fun h180 => ?_) (fun h180 => ?_)
                    · skip
                      have c181 := wt_cle h180
                      unfold wp_md_page_B134
                      have bb182 := wt_bd z58.1
                      obtain ⟨j183, j183a, j183b⟩ := wt_addI z58.1 (0 : Int32)
                      refine hKK57 _ ⟨rfl, (wt_nn (B := wt_ga z58.2.2 276 (Int32.toNatClampNeg x1)) (by omega) (by first | (rw [l60]; omega) | (rw [l60]; done) | omega))⟩ ?_
                      show ((wt_ga r38.2 276 (Int32.toNatClampNeg x1)).toInt - (z58.2.1 + (1 : Int32)).toInt + 0).toNat < ((wt_ga z58.2.2 276 (Int32.toNatClampNeg x1)).toInt - z58.2.1.toInt + 0).toNat
                      exact wt_mu (by first | (rw [l60]; omega) | (rw [l60]; done) | omega) (by first | (rw [l60]; omega) | (rw [l60]; done) | omega)
                    · skip
                      have c184 := wt_ncle h180
                      unfold wp_md_page_B134
                      have bb185 := wt_bd z58.1
                      obtain ⟨j186, j186a, j186b⟩ := wt_addI z58.1 (1 : Int32)
                      refine hKK57 _ ⟨rfl, (wt_nn (B := wt_ga z58.2.2 276 (Int32.toNatClampNeg x1)) (by omega) (by first | (rw [l60]; omega) | (rw [l60]; done) | omega))⟩ ?_
                      show ((wt_ga r38.2 276 (Int32.toNatClampNeg x1)).toInt - (z58.2.1 + (1 : Int32)).toInt + 0).toNat < ((wt_ga z58.2.2 276 (Int32.toNatClampNeg x1)).toInt - z58.2.1.toInt + 0).toNat
                      exact wt_mu (by first | (rw [l60]; omega) | (rw [l60]; done) | omega) (by first | (rw [l60]; omega) | (rw [l60]; done) | omega)
                  · skip
                    have c187 := wt_nceq h151
                    unfold wp_md_page_B142
                    have bb194 := wt_bd z58.1
                    refine wt_T_it (fun s : Int32 × Int32 × wt_St => wt_fr (fun i k => False) (fun i => i = 290 ∨ i = 289) r38.2 s.2.2 ∧ 0 ≤ (s.2.1).toInt ∧ wt_RI s.2.2) (fun s : Int32 × Int32 × wt_St => (12 - s.2.1.toInt).toNat) (fun KK188 z189 I190 hKK188 => ?_) _ _ ?_ ?_
                    · skip
                      obtain ⟨l191, l192, l193⟩ := I190
                      unfold wp_md_page_B145
                      have bb195 := wt_bd z189.2.1
                      refine wt_T_gd (wt_ix (by omega) (by omega)) ?_
                      have bb196 := wt_bd (wt_ga z189.2.2 275 (Int32.toNatClampNeg x1))
                      have g197 : -1 ≤ (wt_ga z189.2.2 275 (Int32.toNatClampNeg x1)).toInt ∧ (wt_ga z189.2.2 275 (Int32.toNatClampNeg x1)).toInt ≤ 7 := wt_R_ga l193 12 rfl 275 (by decide) (by decide) (Int32.toNatClampNeg x1)
                      have tt198 : (wt_ga z189.2.2 275 (Int32.toNatClampNeg x1)).toInt = (wt_ga r38.2 275 (Int32.toNatClampNeg x1)).toInt := congrArg Int32.toInt (l191.2 275 (by (try dsimp only); omega) (Int32.toNatClampNeg x1))
                      have bb199 := wt_bd (wt_ga r38.2 275 (Int32.toNatClampNeg x1))
                      have g200 : -1 ≤ (wt_ga r38.2 275 (Int32.toNatClampNeg x1)).toInt ∧ (wt_ga r38.2 275 (Int32.toNatClampNeg x1)).toInt ≤ 7 := wt_R_ga ri41 12 rfl 275 (by decide) (by decide) (Int32.toNatClampNeg x1)
                      have tt201 : (wt_ga r38.2 275 (Int32.toNatClampNeg x1)).toInt = (wt_ga r19.2 275 (Int32.toNatClampNeg x1)).toInt := congrArg Int32.toInt (f40.2 275 (fun z => z) (Int32.toNatClampNeg x1))
                      have bb202 := wt_bd (wt_ga r19.2 275 (Int32.toNatClampNeg x1))
                      have g203 : -1 ≤ (wt_ga r19.2 275 (Int32.toNatClampNeg x1)).toInt ∧ (wt_ga r19.2 275 (Int32.toNatClampNeg x1)).toInt ≤ 7 := wt_R_ga ri22 12 rfl 275 (by decide) (by decide) (Int32.toNatClampNeg x1)
                      have tt204 : (wt_ga r19.2 275 (Int32.toNatClampNeg x1)).toInt = (wt_ga σ3 275 (Int32.toNatClampNeg x1)).toInt := congrArg Int32.toInt (f21.2 275 (fun z => z) (Int32.toNatClampNeg x1))
                      refine wt_T_gd (wt_ix (by omega) (by omega)) ?_
                      have bb205 := wt_tn (wt_ga z189.2.2 275 (Int32.toNatClampNeg x1))
                      have bb206 := wt_bd (wt_ga z189.2.2 253 (Int32.toNatClampNeg (wt_ga z189.2.2 275 (Int32.toNatClampNeg x1))))
                      have g207 : 0 ≤ (wt_ga z189.2.2 253 (Int32.toNatClampNeg (wt_ga z189.2.2 275 (Int32.toNatClampNeg x1)))).toInt ∧ (wt_ga z189.2.2 253 (Int32.toNatClampNeg (wt_ga z189.2.2 275 (Int32.toNatClampNeg x1)))).toInt ≤ 12 := wt_R_ga l193 9 rfl 253 (by decide) (by decide) (Int32.toNatClampNeg (wt_ga z189.2.2 275 (Int32.toNatClampNeg x1)))
                      have tt208 : (wt_ga z189.2.2 253 (Int32.toNatClampNeg (wt_ga z189.2.2 275 (Int32.toNatClampNeg x1)))).toInt = (wt_ga r38.2 253 (Int32.toNatClampNeg (wt_ga z189.2.2 275 (Int32.toNatClampNeg x1)))).toInt := congrArg Int32.toInt (l191.2 253 (by (try dsimp only); omega) (Int32.toNatClampNeg (wt_ga z189.2.2 275 (Int32.toNatClampNeg x1))))
                      have bb209 := wt_bd (wt_ga r38.2 253 (Int32.toNatClampNeg (wt_ga z189.2.2 275 (Int32.toNatClampNeg x1))))
                      have g210 : 0 ≤ (wt_ga r38.2 253 (Int32.toNatClampNeg (wt_ga z189.2.2 275 (Int32.toNatClampNeg x1)))).toInt ∧ (wt_ga r38.2 253 (Int32.toNatClampNeg (wt_ga z189.2.2 275 (Int32.toNatClampNeg x1)))).toInt ≤ 12 := wt_R_ga ri41 9 rfl 253 (by decide) (by decide) (Int32.toNatClampNeg (wt_ga z189.2.2 275 (Int32.toNatClampNeg x1)))
                      have tt211 : (wt_ga r38.2 253 (Int32.toNatClampNeg (wt_ga z189.2.2 275 (Int32.toNatClampNeg x1)))).toInt = (wt_ga r19.2 253 (Int32.toNatClampNeg (wt_ga z189.2.2 275 (Int32.toNatClampNeg x1)))).toInt := congrArg Int32.toInt (f40.2 253 (fun z => z) (Int32.toNatClampNeg (wt_ga z189.2.2 275 (Int32.toNatClampNeg x1))))
                      have bb212 := wt_bd (wt_ga r19.2 253 (Int32.toNatClampNeg (wt_ga z189.2.2 275 (Int32.toNatClampNeg x1))))
                      have g213 : 0 ≤ (wt_ga r19.2 253 (Int32.toNatClampNeg (wt_ga z189.2.2 275 (Int32.toNatClampNeg x1)))).toInt ∧ (wt_ga r19.2 253 (Int32.toNatClampNeg (wt_ga z189.2.2 275 (Int32.toNatClampNeg x1)))).toInt ≤ 12 := wt_R_ga ri22 9 rfl 253 (by decide) (by decide) (Int32.toNatClampNeg (wt_ga z189.2.2 275 (Int32.toNatClampNeg x1)))
                      have tt214 : (wt_ga r19.2 253 (Int32.toNatClampNeg (wt_ga z189.2.2 275 (Int32.toNatClampNeg x1)))).toInt = (wt_ga σ3 253 (Int32.toNatClampNeg (wt_ga z189.2.2 275 (Int32.toNatClampNeg x1)))).toInt := congrArg Int32.toInt (f21.2 253 (fun z => z) (Int32.toNatClampNeg (wt_ga z189.2.2 275 (Int32.toNatClampNeg x1))))
                      have bb215 := wt_bd (wt_ga σ3 253 (Int32.toNatClampNeg (wt_ga z189.2.2 275 (Int32.toNatClampNeg x1))))
                      have g216 : 0 ≤ (wt_ga σ3 253 (Int32.toNatClampNeg (wt_ga z189.2.2 275 (Int32.toNatClampNeg x1)))).toInt ∧ (wt_ga σ3 253 (Int32.toNatClampNeg (wt_ga z189.2.2 275 (Int32.toNatClampNeg x1)))).toInt ≤ 12 := wt_R_ga rσ3 9 rfl 253 (by decide) (by decide) (Int32.toNatClampNeg (wt_ga z189.2.2 275 (Int32.toNatClampNeg x1)))
                      have tt217 : (wt_ga σ3 253 (Int32.toNatClampNeg (wt_ga z189.2.2 275 (Int32.toNatClampNeg x1)))).toInt = (wt_ga σ 253 (Int32.toNatClampNeg (wt_ga z189.2.2 275 (Int32.toNatClampNeg x1)))).toInt := congrArg Int32.toInt (fσ3.2 253 (fun z => z) (Int32.toNatClampNeg (wt_ga z189.2.2 275 (Int32.toNatClampNeg x1))))
                      have bb218 := wt_bd (wt_ga σ 253 (Int32.toNatClampNeg (wt_ga z189.2.2 275 (Int32.toNatClampNeg x1))))
                      have g219 : 0 ≤ (wt_ga σ 253 (Int32.toNatClampNeg (wt_ga z189.2.2 275 (Int32.toNatClampNeg x1)))).toInt ∧ (wt_ga σ 253 (Int32.toNatClampNeg (wt_ga z189.2.2 275 (Int32.toNatClampNeg x1)))).toInt ≤ 12 := wt_R_ga r0 9 rfl 253 (by decide) (by decide) (Int32.toNatClampNeg (wt_ga z189.2.2 275 (Int32.toNatClampNeg x1)))
                      refine wt_T_if (fun h220 => ?_) (fun h220 => ?_)
                      · skip
                        have c221 := wt_cle h220
                        refine wt_T_some ?_
                        exact ⟨(wt_fr.tr (wt_fr.tr (wt_fr.tr (wt_fr.tr wt_fr.rf fσ3 (fun i k h => by (try dsimp only at h); exact (by omega)) (fun i h => h.elim)) f21 (fun i k h => by (try dsimp only at h); exact (by omega)) (fun i h => h.elim)) f40 (fun i k h => by (try dsimp only at h); exact (by omega)) (fun i h => h.elim)) l191 (fun i k h => h.elim) (fun i h => by (try dsimp only at h); rcases h with h | h; exact Or.inl (by omega); exact Or.inr ((by omega)))), l193⟩
                      · skip
                        have c222 := wt_ncle h220
                        refine wt_T_if (fun h223 => ?_) (fun h223 => ?_)
                        · skip
                          have c224 := wt_ceq h223
                          refine wt_T_bi (wq_md_readOf n hn x1 z189.2.1 z189.2.2 l193 (by omega) (by omega) (by omega) (by omega) (by omega) (wt_PG_fr (F := fun i k => (i = 108 ∧ k = 0)) (A := fun i => i = 290 ∨ i = 289) r0 p0 (wt_fr.tr (wt_fr.tr (wt_fr.tr (wt_fr.tr wt_fr.rf fσ3 (fun i k h => by (try dsimp only at h); exact (by omega)) (fun i h => h.elim)) f21 (fun i k h => by (try dsimp only at h); exact (by omega)) (fun i h => h.elim)) f40 (fun i k h => by (try dsimp only at h); exact (by omega)) (fun i h => h.elim)) l191 (fun i k h => h.elim) (fun i h => by (try dsimp only at h); rcases h with h | h; exact Or.inl (by omega); exact Or.inr ((by omega)))) (fun i hi => by (try dsimp only); unfold wt_PA at hi; omega))) (fun r225 h226 => ?_)
                          obtain ⟨f227, ri228⟩ := h226
                          have bb229 := wt_bd r225.1
                          refine wt_T_gd (wt_ix (by omega) (by omega)) ?_
                          have bb230 := wt_bd (wt_ga r225.2 275 (Int32.toNatClampNeg x1))
                          have g231 : -1 ≤ (wt_ga r225.2 275 (Int32.toNatClampNeg x1)).toInt ∧ (wt_ga r225.2 275 (Int32.toNatClampNeg x1)).toInt ≤ 7 := wt_R_ga ri228 12 rfl 275 (by decide) (by decide) (Int32.toNatClampNeg x1)
                          have tt232 : (wt_ga r225.2 275 (Int32.toNatClampNeg x1)).toInt = (wt_ga z189.2.2 275 (Int32.toNatClampNeg x1)).toInt := congrArg Int32.toInt (f227.2 275 (by (try dsimp only); omega) (Int32.toNatClampNeg x1))
                          refine wt_T_gd (wt_ix (by omega) (by omega)) ?_
                          refine wt_T_gd (wt_ix (by omega) (by omega)) ?_
                          have bb233 := wt_tn (wt_ga r225.2 275 (Int32.toNatClampNeg x1))
                          have bb234 := wt_tn z189.2.1
                          have bb235 := wt_bd (wt_ga r225.2 (255 + (Int32.toNatClampNeg (wt_ga r225.2 275 (Int32.toNatClampNeg x1)))) (Int32.toNatClampNeg z189.2.1))
                          have g236 : 0 ≤ (wt_ga r225.2 (255 + (Int32.toNatClampNeg (wt_ga r225.2 275 (Int32.toNatClampNeg x1)))) (Int32.toNatClampNeg z189.2.1)).toInt ∧ (wt_ga r225.2 (255 + (Int32.toNatClampNeg (wt_ga r225.2 275 (Int32.toNatClampNeg x1)))) (Int32.toNatClampNeg z189.2.1)).toInt ≤ 59 := wt_R_ga ri228 10 rfl (255 + (Int32.toNatClampNeg (wt_ga r225.2 275 (Int32.toNatClampNeg x1)))) (show 255 ≤ 255 + (Int32.toNatClampNeg (wt_ga r225.2 275 (Int32.toNatClampNeg x1))) by omega) (show 255 + (Int32.toNatClampNeg (wt_ga r225.2 275 (Int32.toNatClampNeg x1))) < 263 by omega) (Int32.toNatClampNeg z189.2.1)
                          have tt237 : (wt_ga r225.2 (255 + (Int32.toNatClampNeg (wt_ga r225.2 275 (Int32.toNatClampNeg x1)))) (Int32.toNatClampNeg z189.2.1)).toInt = (wt_ga z189.2.2 (255 + (Int32.toNatClampNeg (wt_ga r225.2 275 (Int32.toNatClampNeg x1)))) (Int32.toNatClampNeg z189.2.1)).toInt := congrArg Int32.toInt (f227.2 (255 + (Int32.toNatClampNeg (wt_ga r225.2 275 (Int32.toNatClampNeg x1)))) (by (try dsimp only); omega) (Int32.toNatClampNeg z189.2.1))
                          have bb238 := wt_bd (wt_ga z189.2.2 (255 + (Int32.toNatClampNeg (wt_ga r225.2 275 (Int32.toNatClampNeg x1)))) (Int32.toNatClampNeg z189.2.1))
                          have g239 : 0 ≤ (wt_ga z189.2.2 (255 + (Int32.toNatClampNeg (wt_ga r225.2 275 (Int32.toNatClampNeg x1)))) (Int32.toNatClampNeg z189.2.1)).toInt ∧ (wt_ga z189.2.2 (255 + (Int32.toNatClampNeg (wt_ga r225.2 275 (Int32.toNatClampNeg x1)))) (Int32.toNatClampNeg z189.2.1)).toInt ≤ 59 := wt_R_ga l193 10 rfl (255 + (Int32.toNatClampNeg (wt_ga r225.2 275 (Int32.toNatClampNeg x1)))) (show 255 ≤ 255 + (Int32.toNatClampNeg (wt_ga r225.2 275 (Int32.toNatClampNeg x1))) by omega) (show 255 + (Int32.toNatClampNeg (wt_ga r225.2 275 (Int32.toNatClampNeg x1))) < 263 by omega) (Int32.toNatClampNeg z189.2.1)
                          have tt240 : (wt_ga z189.2.2 (255 + (Int32.toNatClampNeg (wt_ga r225.2 275 (Int32.toNatClampNeg x1)))) (Int32.toNatClampNeg z189.2.1)).toInt = (wt_ga r38.2 (255 + (Int32.toNatClampNeg (wt_ga r225.2 275 (Int32.toNatClampNeg x1)))) (Int32.toNatClampNeg z189.2.1)).toInt := congrArg Int32.toInt (l191.2 (255 + (Int32.toNatClampNeg (wt_ga r225.2 275 (Int32.toNatClampNeg x1)))) (by (try dsimp only); omega) (Int32.toNatClampNeg z189.2.1))
                          have bb241 := wt_bd (wt_ga r38.2 (255 + (Int32.toNatClampNeg (wt_ga r225.2 275 (Int32.toNatClampNeg x1)))) (Int32.toNatClampNeg z189.2.1))
                          have g242 : 0 ≤ (wt_ga r38.2 (255 + (Int32.toNatClampNeg (wt_ga r225.2 275 (Int32.toNatClampNeg x1)))) (Int32.toNatClampNeg z189.2.1)).toInt ∧ (wt_ga r38.2 (255 + (Int32.toNatClampNeg (wt_ga r225.2 275 (Int32.toNatClampNeg x1)))) (Int32.toNatClampNeg z189.2.1)).toInt ≤ 59 := wt_R_ga ri41 10 rfl (255 + (Int32.toNatClampNeg (wt_ga r225.2 275 (Int32.toNatClampNeg x1)))) (show 255 ≤ 255 + (Int32.toNatClampNeg (wt_ga r225.2 275 (Int32.toNatClampNeg x1))) by omega) (show 255 + (Int32.toNatClampNeg (wt_ga r225.2 275 (Int32.toNatClampNeg x1))) < 263 by omega) (Int32.toNatClampNeg z189.2.1)
                          have tt243 : (wt_ga r38.2 (255 + (Int32.toNatClampNeg (wt_ga r225.2 275 (Int32.toNatClampNeg x1)))) (Int32.toNatClampNeg z189.2.1)).toInt = (wt_ga r19.2 (255 + (Int32.toNatClampNeg (wt_ga r225.2 275 (Int32.toNatClampNeg x1)))) (Int32.toNatClampNeg z189.2.1)).toInt := congrArg Int32.toInt (f40.2 (255 + (Int32.toNatClampNeg (wt_ga r225.2 275 (Int32.toNatClampNeg x1)))) (fun z => z) (Int32.toNatClampNeg z189.2.1))
                          have bb244 := wt_bd (wt_ga r19.2 (255 + (Int32.toNatClampNeg (wt_ga r225.2 275 (Int32.toNatClampNeg x1)))) (Int32.toNatClampNeg z189.2.1))
                          have g245 : 0 ≤ (wt_ga r19.2 (255 + (Int32.toNatClampNeg (wt_ga r225.2 275 (Int32.toNatClampNeg x1)))) (Int32.toNatClampNeg z189.2.1)).toInt ∧ (wt_ga r19.2 (255 + (Int32.toNatClampNeg (wt_ga r225.2 275 (Int32.toNatClampNeg x1)))) (Int32.toNatClampNeg z189.2.1)).toInt ≤ 59 := wt_R_ga ri22 10 rfl (255 + (Int32.toNatClampNeg (wt_ga r225.2 275 (Int32.toNatClampNeg x1)))) (show 255 ≤ 255 + (Int32.toNatClampNeg (wt_ga r225.2 275 (Int32.toNatClampNeg x1))) by omega) (show 255 + (Int32.toNatClampNeg (wt_ga r225.2 275 (Int32.toNatClampNeg x1))) < 263 by omega) (Int32.toNatClampNeg z189.2.1)
                          have tt246 : (wt_ga r19.2 (255 + (Int32.toNatClampNeg (wt_ga r225.2 275 (Int32.toNatClampNeg x1)))) (Int32.toNatClampNeg z189.2.1)).toInt = (wt_ga σ3 (255 + (Int32.toNatClampNeg (wt_ga r225.2 275 (Int32.toNatClampNeg x1)))) (Int32.toNatClampNeg z189.2.1)).toInt := congrArg Int32.toInt (f21.2 (255 + (Int32.toNatClampNeg (wt_ga r225.2 275 (Int32.toNatClampNeg x1)))) (fun z => z) (Int32.toNatClampNeg z189.2.1))
                          have bb247 := wt_bd (wt_ga σ3 (255 + (Int32.toNatClampNeg (wt_ga r225.2 275 (Int32.toNatClampNeg x1)))) (Int32.toNatClampNeg z189.2.1))
                          have g248 : 0 ≤ (wt_ga σ3 (255 + (Int32.toNatClampNeg (wt_ga r225.2 275 (Int32.toNatClampNeg x1)))) (Int32.toNatClampNeg z189.2.1)).toInt ∧ (wt_ga σ3 (255 + (Int32.toNatClampNeg (wt_ga r225.2 275 (Int32.toNatClampNeg x1)))) (Int32.toNatClampNeg z189.2.1)).toInt ≤ 59 := wt_R_ga rσ3 10 rfl (255 + (Int32.toNatClampNeg (wt_ga r225.2 275 (Int32.toNatClampNeg x1)))) (show 255 ≤ 255 + (Int32.toNatClampNeg (wt_ga r225.2 275 (Int32.toNatClampNeg x1))) by omega) (show 255 + (Int32.toNatClampNeg (wt_ga r225.2 275 (Int32.toNatClampNeg x1))) < 263 by omega) (Int32.toNatClampNeg z189.2.1)
                          have tt249 : (wt_ga σ3 (255 + (Int32.toNatClampNeg (wt_ga r225.2 275 (Int32.toNatClampNeg x1)))) (Int32.toNatClampNeg z189.2.1)).toInt = (wt_ga σ (255 + (Int32.toNatClampNeg (wt_ga r225.2 275 (Int32.toNatClampNeg x1)))) (Int32.toNatClampNeg z189.2.1)).toInt := congrArg Int32.toInt (fσ3.2 (255 + (Int32.toNatClampNeg (wt_ga r225.2 275 (Int32.toNatClampNeg x1)))) (fun z => z) (Int32.toNatClampNeg z189.2.1))
                          have bb250 := wt_bd (wt_ga σ (255 + (Int32.toNatClampNeg (wt_ga r225.2 275 (Int32.toNatClampNeg x1)))) (Int32.toNatClampNeg z189.2.1))
                          have g251 : 0 ≤ (wt_ga σ (255 + (Int32.toNatClampNeg (wt_ga r225.2 275 (Int32.toNatClampNeg x1)))) (Int32.toNatClampNeg z189.2.1)).toInt ∧ (wt_ga σ (255 + (Int32.toNatClampNeg (wt_ga r225.2 275 (Int32.toNatClampNeg x1)))) (Int32.toNatClampNeg z189.2.1)).toInt ≤ 59 := wt_R_ga r0 10 rfl (255 + (Int32.toNatClampNeg (wt_ga r225.2 275 (Int32.toNatClampNeg x1)))) (show 255 ≤ 255 + (Int32.toNatClampNeg (wt_ga r225.2 275 (Int32.toNatClampNeg x1))) by omega) (show 255 + (Int32.toNatClampNeg (wt_ga r225.2 275 (Int32.toNatClampNeg x1))) < 263 by omega) (Int32.toNatClampNeg z189.2.1)
                          refine wt_T_if (fun h252 => ?_) (fun h252 => ?_)
                          · skip
                            have c253 := wt_ceq h252
                            unfold wp_md_page_B196
                            have bb254 := wt_bd z189.1
                            obtain ⟨j255, j255a, j255b⟩ := wt_addI z189.1 (0 : Int32)
                            obtain ⟨j256, j256a, j256b⟩ := wt_addI z189.2.1 (1 : Int32)
                            refine hKK188 _ ⟨(wt_fr.tr (wt_fr.tr wt_fr.rf l191 (fun i k h => h.elim) (fun i h => by (try dsimp only at h); rcases h with h | h; exact Or.inl (by omega); exact Or.inr ((by omega)))) f227 (fun i k h => h.elim) (fun i h => by (try dsimp only at h); rcases h with h | h; exact Or.inl (by omega); exact Or.inr ((by omega)))), (show 0 ≤ ((z189.2.1 + (1 : Int32))).toInt by omega), ri228⟩ ?_
                            show (12 - (z189.2.1 + (1 : Int32)).toInt).toNat < (12 - z189.2.1.toInt).toNat
                            omega
                          · skip
                            have c257 := wt_nceq h252
                            unfold wp_md_page_B196
                            have bb258 := wt_bd z189.1
                            obtain ⟨j259, j259a, j259b⟩ := wt_addI z189.1 (1 : Int32)
                            obtain ⟨j260, j260a, j260b⟩ := wt_addI z189.2.1 (1 : Int32)
                            refine hKK188 _ ⟨(wt_fr.tr (wt_fr.tr wt_fr.rf l191 (fun i k h => h.elim) (fun i h => by (try dsimp only at h); rcases h with h | h; exact Or.inl (by omega); exact Or.inr ((by omega)))) f227 (fun i k h => h.elim) (fun i h => by (try dsimp only at h); rcases h with h | h; exact Or.inl (by omega); exact Or.inr ((by omega)))), (show 0 ≤ ((z189.2.1 + (1 : Int32))).toInt by omega), ri228⟩ ?_
                            show (12 - (z189.2.1 + (1 : Int32)).toInt).toNat < (12 - z189.2.1.toInt).toNat
                            omega
                        · skip
                          have c261 := wt_nceq h223
                          refine wt_T_some ?_
                          exact ⟨(wt_fr.tr (wt_fr.tr (wt_fr.tr (wt_fr.tr wt_fr.rf fσ3 (fun i k h => by (try dsimp only at h); exact (by omega)) (fun i h => h.elim)) f21 (fun i k h => by (try dsimp only at h); exact (by omega)) (fun i h => h.elim)) f40 (fun i k h => by (try dsimp only at h); exact (by omega)) (fun i h => h.elim)) l191 (fun i k h => h.elim) (fun i h => by (try dsimp only at h); rcases h with h | h; exact Or.inl (by omega); exact Or.inr ((by omega)))), l193⟩
                    · skip
                      exact ⟨wt_fr.rf, (show 0 ≤ ((0 : Int32)).toInt by omega), ri41⟩
                    · skip
                      show (12 - (0 : Int32).toInt).toNat < n
                      omega
              · skip
                have bb262 := wt_bd (wt_ga r38.2 276 (Int32.toNatClampNeg x1))
                have g263 : 0 ≤ (wt_ga r38.2 276 (Int32.toNatClampNeg x1)).toInt ∧ (wt_ga r38.2 276 (Int32.toNatClampNeg x1)).toInt ≤ 108 := wt_R_ga ri41 13 rfl 276 (by decide) (by decide) (Int32.toNatClampNeg x1)
                have tt264 : (wt_ga r38.2 276 (Int32.toNatClampNeg x1)).toInt = (wt_ga r19.2 276 (Int32.toNatClampNeg x1)).toInt := congrArg Int32.toInt (f40.2 276 (fun z => z) (Int32.toNatClampNeg x1))
                have bb265 := wt_bd (wt_ga r19.2 276 (Int32.toNatClampNeg x1))
                have g266 : 0 ≤ (wt_ga r19.2 276 (Int32.toNatClampNeg x1)).toInt ∧ (wt_ga r19.2 276 (Int32.toNatClampNeg x1)).toInt ≤ 108 := wt_R_ga ri22 13 rfl 276 (by decide) (by decide) (Int32.toNatClampNeg x1)
                have tt267 : (wt_ga r19.2 276 (Int32.toNatClampNeg x1)).toInt = (wt_ga σ3 276 (Int32.toNatClampNeg x1)).toInt := congrArg Int32.toInt (f21.2 276 (fun z => z) (Int32.toNatClampNeg x1))
                have bb268 := wt_bd (wt_ga σ3 276 (Int32.toNatClampNeg x1))
                have g269 : 0 ≤ (wt_ga σ3 276 (Int32.toNatClampNeg x1)).toInt ∧ (wt_ga σ3 276 (Int32.toNatClampNeg x1)).toInt ≤ 108 := wt_R_ga rσ3 13 rfl 276 (by decide) (by decide) (Int32.toNatClampNeg x1)
                have tt270 : (wt_ga σ3 276 (Int32.toNatClampNeg x1)).toInt = (wt_ga σ 276 (Int32.toNatClampNeg x1)).toInt := congrArg Int32.toInt (fσ3.2 276 (fun z => z) (Int32.toNatClampNeg x1))
                have bb271 := wt_bd (wt_ga σ 276 (Int32.toNatClampNeg x1))
                have g272 : 0 ≤ (wt_ga σ 276 (Int32.toNatClampNeg x1)).toInt ∧ (wt_ga σ 276 (Int32.toNatClampNeg x1)).toInt ≤ 108 := wt_R_ga r0 13 rfl 276 (by decide) (by decide) (Int32.toNatClampNeg x1)
                exact ⟨rfl, (show 0 ≤ ((0 : Int32)).toInt by omega)⟩
              · skip
                have bb273 := wt_bd (wt_ga r38.2 276 (Int32.toNatClampNeg x1))
                have g274 : 0 ≤ (wt_ga r38.2 276 (Int32.toNatClampNeg x1)).toInt ∧ (wt_ga r38.2 276 (Int32.toNatClampNeg x1)).toInt ≤ 108 := wt_R_ga ri41 13 rfl 276 (by decide) (by decide) (Int32.toNatClampNeg x1)
                have tt275 : (wt_ga r38.2 276 (Int32.toNatClampNeg x1)).toInt = (wt_ga r19.2 276 (Int32.toNatClampNeg x1)).toInt := congrArg Int32.toInt (f40.2 276 (fun z => z) (Int32.toNatClampNeg x1))
                have bb276 := wt_bd (wt_ga r19.2 276 (Int32.toNatClampNeg x1))
                have g277 : 0 ≤ (wt_ga r19.2 276 (Int32.toNatClampNeg x1)).toInt ∧ (wt_ga r19.2 276 (Int32.toNatClampNeg x1)).toInt ≤ 108 := wt_R_ga ri22 13 rfl 276 (by decide) (by decide) (Int32.toNatClampNeg x1)
                have tt278 : (wt_ga r19.2 276 (Int32.toNatClampNeg x1)).toInt = (wt_ga σ3 276 (Int32.toNatClampNeg x1)).toInt := congrArg Int32.toInt (f21.2 276 (fun z => z) (Int32.toNatClampNeg x1))
                have bb279 := wt_bd (wt_ga σ3 276 (Int32.toNatClampNeg x1))
                have g280 : 0 ≤ (wt_ga σ3 276 (Int32.toNatClampNeg x1)).toInt ∧ (wt_ga σ3 276 (Int32.toNatClampNeg x1)).toInt ≤ 108 := wt_R_ga rσ3 13 rfl 276 (by decide) (by decide) (Int32.toNatClampNeg x1)
                have tt281 : (wt_ga σ3 276 (Int32.toNatClampNeg x1)).toInt = (wt_ga σ 276 (Int32.toNatClampNeg x1)).toInt := congrArg Int32.toInt (fσ3.2 276 (fun z => z) (Int32.toNatClampNeg x1))
                have bb282 := wt_bd (wt_ga σ 276 (Int32.toNatClampNeg x1))
                have g283 : 0 ≤ (wt_ga σ 276 (Int32.toNatClampNeg x1)).toInt ∧ (wt_ga σ 276 (Int32.toNatClampNeg x1)).toInt ≤ 108 := wt_R_ga r0 13 rfl 276 (by decide) (by decide) (Int32.toNatClampNeg x1)
                show ((wt_ga r38.2 276 (Int32.toNatClampNeg x1)).toInt - (0 : Int32).toInt + 0).toNat < n
                omega
          · skip
            have c284 := wt_ncle h47
            refine wt_T_if (fun h285 => ?_) (fun h285 => ?_)
            · skip
              have c286 := wt_ceq h285
              refine wt_T_gd (wt_ix (by omega) (by omega)) ?_
              refine wt_T_some ?_
              exact ⟨(wt_fr.tr (wt_fr.tr (wt_fr.tr wt_fr.rf fσ3 (fun i k h => by (try dsimp only at h); exact (by omega)) (fun i h => h.elim)) f21 (fun i k h => by (try dsimp only at h); exact (by omega)) (fun i h => h.elim)) f40 (fun i k h => by (try dsimp only at h); exact (by omega)) (fun i h => h.elim)), ri41⟩
            · skip
              have c287 := wt_nceq h285
              refine wt_T_gd (wt_ix (by omega) (by omega)) ?_
              refine wt_T_some ?_
              exact ⟨(wt_fr.tr (wt_fr.tr (wt_fr.tr wt_fr.rf fσ3 (fun i k h => by (try dsimp only at h); exact (by omega)) (fun i h => h.elim)) f21 (fun i k h => by (try dsimp only at h); exact (by omega)) (fun i h => h.elim)) f40 (fun i k h => by (try dsimp only at h); exact (by omega)) (fun i h => h.elim)), ri41⟩
        · skip
          have c288 := wt_nceq h45
          refine wt_T_some ?_
          exact ⟨(wt_fr.tr (wt_fr.tr (wt_fr.tr wt_fr.rf fσ3 (fun i k h => by (try dsimp only at h); exact (by omega)) (fun i h => h.elim)) f21 (fun i k h => by (try dsimp only at h); exact (by omega)) (fun i h => h.elim)) f40 (fun i k h => by (try dsimp only at h); exact (by omega)) (fun i h => h.elim)), ri41⟩
      · skip
        have c289 := wt_nceq h35
        unfold wp_md_page_B41
        have k290 : (2 : Int32).toInt = 2 := by decide
        refine wt_T_bi (wq_md_bad n hn (0 : Int32) (2 : Int32) r19.2 ri22 (by omega)) (fun r291 h292 => ?_)
        obtain ⟨f293, ri294, pp295⟩ := h292
        have bb296 := wt_bd r291.1
        have bb297 := wt_bd (wt_gf r291.2 108 0)
        refine wt_T_if (fun h298 => ?_) (fun h298 => ?_)
        · skip
          have c299 := wt_ceq h298
          refine wt_T_if (fun h300 => ?_) (fun h300 => ?_)
          · skip
            have c301 := wt_cle h300
            have k302 : (3 : Int32).toInt = 3 := by decide
            refine wt_T_if (fun h303 => ?_) (fun h303 => ?_)
            · skip
              have c304 := wt_ceq h303
              refine wt_T_bi (wq_md_leastOf n hn x1 r291.2 ri294 (by omega) (by omega)) (fun r305 h306 => ?_)
              have e307 := h306
              have bb308 := wt_bd r305.1
              rw [e307]
              refine wt_T_some ?_
              exact ⟨(wt_fr.tr (wt_fr.tr (wt_fr.tr wt_fr.rf fσ3 (fun i k h => by (try dsimp only at h); exact (by omega)) (fun i h => h.elim)) f21 (fun i k h => by (try dsimp only at h); exact (by omega)) (fun i h => h.elim)) f293 (fun i k h => by (try dsimp only at h); exact (by omega)) (fun i h => h.elim)), ri294⟩
            · skip
              have c309 := wt_nceq h303
              refine wt_T_it (fun s : Int32 × Int32 × wt_St => s.2.2 = r291.2 ∧ 0 ≤ (s.2.1).toInt) (fun s : Int32 × Int32 × wt_St => ((wt_ga s.2.2 276 (Int32.toNatClampNeg x1)).toInt - s.2.1.toInt + 0).toNat) (fun KK310 z311 I312 hKK310 => ?_) _ _ ?_ ?_
              · skip
                obtain ⟨l313, l314⟩ := I312
                unfold wp_md_page_B91
                rw [l313]
                have bb315 := wt_bd (wt_ga r291.2 276 (Int32.toNatClampNeg x1))
                have g316 : 0 ≤ (wt_ga r291.2 276 (Int32.toNatClampNeg x1)).toInt ∧ (wt_ga r291.2 276 (Int32.toNatClampNeg x1)).toInt ≤ 108 := wt_R_ga ri294 13 rfl 276 (by decide) (by decide) (Int32.toNatClampNeg x1)
                have tt317 : (wt_ga r291.2 276 (Int32.toNatClampNeg x1)).toInt = (wt_ga r19.2 276 (Int32.toNatClampNeg x1)).toInt := congrArg Int32.toInt (f293.2 276 (fun z => z) (Int32.toNatClampNeg x1))
                have bb318 := wt_bd (wt_ga r19.2 276 (Int32.toNatClampNeg x1))
                have g319 : 0 ≤ (wt_ga r19.2 276 (Int32.toNatClampNeg x1)).toInt ∧ (wt_ga r19.2 276 (Int32.toNatClampNeg x1)).toInt ≤ 108 := wt_R_ga ri22 13 rfl 276 (by decide) (by decide) (Int32.toNatClampNeg x1)
                have tt320 : (wt_ga r19.2 276 (Int32.toNatClampNeg x1)).toInt = (wt_ga σ3 276 (Int32.toNatClampNeg x1)).toInt := congrArg Int32.toInt (f21.2 276 (fun z => z) (Int32.toNatClampNeg x1))
                have bb321 := wt_bd (wt_ga σ3 276 (Int32.toNatClampNeg x1))
                have g322 : 0 ≤ (wt_ga σ3 276 (Int32.toNatClampNeg x1)).toInt ∧ (wt_ga σ3 276 (Int32.toNatClampNeg x1)).toInt ≤ 108 := wt_R_ga rσ3 13 rfl 276 (by decide) (by decide) (Int32.toNatClampNeg x1)
                have tt323 : (wt_ga σ3 276 (Int32.toNatClampNeg x1)).toInt = (wt_ga σ 276 (Int32.toNatClampNeg x1)).toInt := congrArg Int32.toInt (fσ3.2 276 (fun z => z) (Int32.toNatClampNeg x1))
                have bb324 := wt_bd (wt_ga σ 276 (Int32.toNatClampNeg x1))
                have g325 : 0 ≤ (wt_ga σ 276 (Int32.toNatClampNeg x1)).toInt ∧ (wt_ga σ 276 (Int32.toNatClampNeg x1)).toInt ≤ 108 := wt_R_ga r0 13 rfl 276 (by decide) (by decide) (Int32.toNatClampNeg x1)
                have bb326 := wt_bd z311.2.1
                refine wt_T_gd (wt_ix (by omega) (by omega)) ?_
                refine wt_T_if (fun h327 => ?_) (fun h327 => ?_)
                · skip
                  have c328 := wt_cle h327
                  unfold wp_md_page_B142
                  have bb335 := wt_bd z311.1
                  refine wt_T_it (fun s : Int32 × Int32 × wt_St => wt_fr (fun i k => False) (fun i => i = 290 ∨ i = 289) r291.2 s.2.2 ∧ 0 ≤ (s.2.1).toInt ∧ wt_RI s.2.2) (fun s : Int32 × Int32 × wt_St => (12 - s.2.1.toInt).toNat) (fun KK329 z330 I331 hKK329 => ?_) _ _ ?_ ?_
                  · skip
                    obtain ⟨l332, l333, l334⟩ := I331
                    unfold wp_md_page_B145
                    have bb336 := wt_bd z330.2.1
                    refine wt_T_gd (wt_ix (by omega) (by omega)) ?_
                    have bb337 := wt_bd (wt_ga z330.2.2 275 (Int32.toNatClampNeg x1))
                    have g338 : -1 ≤ (wt_ga z330.2.2 275 (Int32.toNatClampNeg x1)).toInt ∧ (wt_ga z330.2.2 275 (Int32.toNatClampNeg x1)).toInt ≤ 7 := wt_R_ga l334 12 rfl 275 (by decide) (by decide) (Int32.toNatClampNeg x1)
                    have tt339 : (wt_ga z330.2.2 275 (Int32.toNatClampNeg x1)).toInt = (wt_ga r291.2 275 (Int32.toNatClampNeg x1)).toInt := congrArg Int32.toInt (l332.2 275 (by (try dsimp only); omega) (Int32.toNatClampNeg x1))
                    have bb340 := wt_bd (wt_ga r291.2 275 (Int32.toNatClampNeg x1))
                    have g341 : -1 ≤ (wt_ga r291.2 275 (Int32.toNatClampNeg x1)).toInt ∧ (wt_ga r291.2 275 (Int32.toNatClampNeg x1)).toInt ≤ 7 := wt_R_ga ri294 12 rfl 275 (by decide) (by decide) (Int32.toNatClampNeg x1)
                    have tt342 : (wt_ga r291.2 275 (Int32.toNatClampNeg x1)).toInt = (wt_ga r19.2 275 (Int32.toNatClampNeg x1)).toInt := congrArg Int32.toInt (f293.2 275 (fun z => z) (Int32.toNatClampNeg x1))
                    have bb343 := wt_bd (wt_ga r19.2 275 (Int32.toNatClampNeg x1))
                    have g344 : -1 ≤ (wt_ga r19.2 275 (Int32.toNatClampNeg x1)).toInt ∧ (wt_ga r19.2 275 (Int32.toNatClampNeg x1)).toInt ≤ 7 := wt_R_ga ri22 12 rfl 275 (by decide) (by decide) (Int32.toNatClampNeg x1)
                    have tt345 : (wt_ga r19.2 275 (Int32.toNatClampNeg x1)).toInt = (wt_ga σ3 275 (Int32.toNatClampNeg x1)).toInt := congrArg Int32.toInt (f21.2 275 (fun z => z) (Int32.toNatClampNeg x1))
                    refine wt_T_gd (wt_ix (by omega) (by omega)) ?_
                    have bb346 := wt_tn (wt_ga z330.2.2 275 (Int32.toNatClampNeg x1))
                    have bb347 := wt_bd (wt_ga z330.2.2 253 (Int32.toNatClampNeg (wt_ga z330.2.2 275 (Int32.toNatClampNeg x1))))
                    have g348 : 0 ≤ (wt_ga z330.2.2 253 (Int32.toNatClampNeg (wt_ga z330.2.2 275 (Int32.toNatClampNeg x1)))).toInt ∧ (wt_ga z330.2.2 253 (Int32.toNatClampNeg (wt_ga z330.2.2 275 (Int32.toNatClampNeg x1)))).toInt ≤ 12 := wt_R_ga l334 9 rfl 253 (by decide) (by decide) (Int32.toNatClampNeg (wt_ga z330.2.2 275 (Int32.toNatClampNeg x1)))
                    have tt349 : (wt_ga z330.2.2 253 (Int32.toNatClampNeg (wt_ga z330.2.2 275 (Int32.toNatClampNeg x1)))).toInt = (wt_ga r291.2 253 (Int32.toNatClampNeg (wt_ga z330.2.2 275 (Int32.toNatClampNeg x1)))).toInt := congrArg Int32.toInt (l332.2 253 (by (try dsimp only); omega) (Int32.toNatClampNeg (wt_ga z330.2.2 275 (Int32.toNatClampNeg x1))))
                    have bb350 := wt_bd (wt_ga r291.2 253 (Int32.toNatClampNeg (wt_ga z330.2.2 275 (Int32.toNatClampNeg x1))))
                    have g351 : 0 ≤ (wt_ga r291.2 253 (Int32.toNatClampNeg (wt_ga z330.2.2 275 (Int32.toNatClampNeg x1)))).toInt ∧ (wt_ga r291.2 253 (Int32.toNatClampNeg (wt_ga z330.2.2 275 (Int32.toNatClampNeg x1)))).toInt ≤ 12 := wt_R_ga ri294 9 rfl 253 (by decide) (by decide) (Int32.toNatClampNeg (wt_ga z330.2.2 275 (Int32.toNatClampNeg x1)))
                    have tt352 : (wt_ga r291.2 253 (Int32.toNatClampNeg (wt_ga z330.2.2 275 (Int32.toNatClampNeg x1)))).toInt = (wt_ga r19.2 253 (Int32.toNatClampNeg (wt_ga z330.2.2 275 (Int32.toNatClampNeg x1)))).toInt := congrArg Int32.toInt (f293.2 253 (fun z => z) (Int32.toNatClampNeg (wt_ga z330.2.2 275 (Int32.toNatClampNeg x1))))
                    have bb353 := wt_bd (wt_ga r19.2 253 (Int32.toNatClampNeg (wt_ga z330.2.2 275 (Int32.toNatClampNeg x1))))
                    have g354 : 0 ≤ (wt_ga r19.2 253 (Int32.toNatClampNeg (wt_ga z330.2.2 275 (Int32.toNatClampNeg x1)))).toInt ∧ (wt_ga r19.2 253 (Int32.toNatClampNeg (wt_ga z330.2.2 275 (Int32.toNatClampNeg x1)))).toInt ≤ 12 := wt_R_ga ri22 9 rfl 253 (by decide) (by decide) (Int32.toNatClampNeg (wt_ga z330.2.2 275 (Int32.toNatClampNeg x1)))
                    have tt355 : (wt_ga r19.2 253 (Int32.toNatClampNeg (wt_ga z330.2.2 275 (Int32.toNatClampNeg x1)))).toInt = (wt_ga σ3 253 (Int32.toNatClampNeg (wt_ga z330.2.2 275 (Int32.toNatClampNeg x1)))).toInt := congrArg Int32.toInt (f21.2 253 (fun z => z) (Int32.toNatClampNeg (wt_ga z330.2.2 275 (Int32.toNatClampNeg x1))))
                    have bb356 := wt_bd (wt_ga σ3 253 (Int32.toNatClampNeg (wt_ga z330.2.2 275 (Int32.toNatClampNeg x1))))
                    have g357 : 0 ≤ (wt_ga σ3 253 (Int32.toNatClampNeg (wt_ga z330.2.2 275 (Int32.toNatClampNeg x1)))).toInt ∧ (wt_ga σ3 253 (Int32.toNatClampNeg (wt_ga z330.2.2 275 (Int32.toNatClampNeg x1)))).toInt ≤ 12 := wt_R_ga rσ3 9 rfl 253 (by decide) (by decide) (Int32.toNatClampNeg (wt_ga z330.2.2 275 (Int32.toNatClampNeg x1)))
                    have tt358 : (wt_ga σ3 253 (Int32.toNatClampNeg (wt_ga z330.2.2 275 (Int32.toNatClampNeg x1)))).toInt = (wt_ga σ 253 (Int32.toNatClampNeg (wt_ga z330.2.2 275 (Int32.toNatClampNeg x1)))).toInt := congrArg Int32.toInt (fσ3.2 253 (fun z => z) (Int32.toNatClampNeg (wt_ga z330.2.2 275 (Int32.toNatClampNeg x1))))
                    have bb359 := wt_bd (wt_ga σ 253 (Int32.toNatClampNeg (wt_ga z330.2.2 275 (Int32.toNatClampNeg x1))))
                    have g360 : 0 ≤ (wt_ga σ 253 (Int32.toNatClampNeg (wt_ga z330.2.2 275 (Int32.toNatClampNeg x1)))).toInt ∧ (wt_ga σ 253 (Int32.toNatClampNeg (wt_ga z330.2.2 275 (Int32.toNatClampNeg x1)))).toInt ≤ 12 := wt_R_ga r0 9 rfl 253 (by decide) (by decide) (Int32.toNatClampNeg (wt_ga z330.2.2 275 (Int32.toNatClampNeg x1)))
                    refine wt_T_if (fun h361 => ?_) (fun h361 => ?_)
                    · skip
                      have c362 := wt_cle h361
                      refine wt_T_some ?_
                      exact ⟨(wt_fr.tr (wt_fr.tr (wt_fr.tr (wt_fr.tr wt_fr.rf fσ3 (fun i k h => by (try dsimp only at h); exact (by omega)) (fun i h => h.elim)) f21 (fun i k h => by (try dsimp only at h); exact (by omega)) (fun i h => h.elim)) f293 (fun i k h => by (try dsimp only at h); exact (by omega)) (fun i h => h.elim)) l332 (fun i k h => h.elim) (fun i h => by (try dsimp only at h); rcases h with h | h; exact Or.inl (by omega); exact Or.inr ((by omega)))), l334⟩
                    · skip
                      have c363 := wt_ncle h361
                      refine wt_T_if (fun h364 => ?_) (fun h364 => ?_)
                      · skip
                        have c365 := wt_ceq h364
                        refine wt_T_bi (wq_md_readOf n hn x1 z330.2.1 z330.2.2 l334 (by omega) (by omega) (by omega) (by omega) (by omega) (wt_PG_fr (F := fun i k => (i = 108 ∧ k = 0)) (A := fun i => i = 290 ∨ i = 289) r0 p0 (wt_fr.tr (wt_fr.tr (wt_fr.tr (wt_fr.tr wt_fr.rf fσ3 (fun i k h => by (try dsimp only at h); exact (by omega)) (fun i h => h.elim)) f21 (fun i k h => by (try dsimp only at h); exact (by omega)) (fun i h => h.elim)) f293 (fun i k h => by (try dsimp only at h); exact (by omega)) (fun i h => h.elim)) l332 (fun i k h => h.elim) (fun i h => by (try dsimp only at h); rcases h with h | h; exact Or.inl (by omega); exact Or.inr ((by omega)))) (fun i hi => by (try dsimp only); unfold wt_PA at hi; omega))) (fun r366 h367 => ?_)
                        obtain ⟨f368, ri369⟩ := h367
                        have bb370 := wt_bd r366.1
                        refine wt_T_gd (wt_ix (by omega) (by omega)) ?_
                        have bb371 := wt_bd (wt_ga r366.2 275 (Int32.toNatClampNeg x1))
                        have g372 : -1 ≤ (wt_ga r366.2 275 (Int32.toNatClampNeg x1)).toInt ∧ (wt_ga r366.2 275 (Int32.toNatClampNeg x1)).toInt ≤ 7 := wt_R_ga ri369 12 rfl 275 (by decide) (by decide) (Int32.toNatClampNeg x1)
                        have tt373 : (wt_ga r366.2 275 (Int32.toNatClampNeg x1)).toInt = (wt_ga z330.2.2 275 (Int32.toNatClampNeg x1)).toInt := congrArg Int32.toInt (f368.2 275 (by (try dsimp only); omega) (Int32.toNatClampNeg x1))
                        refine wt_T_gd (wt_ix (by omega) (by omega)) ?_
                        refine wt_T_gd (wt_ix (by omega) (by omega)) ?_
                        have bb374 := wt_tn (wt_ga r366.2 275 (Int32.toNatClampNeg x1))
                        have bb375 := wt_tn z330.2.1
                        have bb376 := wt_bd (wt_ga r366.2 (255 + (Int32.toNatClampNeg (wt_ga r366.2 275 (Int32.toNatClampNeg x1)))) (Int32.toNatClampNeg z330.2.1))
                        have g377 : 0 ≤ (wt_ga r366.2 (255 + (Int32.toNatClampNeg (wt_ga r366.2 275 (Int32.toNatClampNeg x1)))) (Int32.toNatClampNeg z330.2.1)).toInt ∧ (wt_ga r366.2 (255 + (Int32.toNatClampNeg (wt_ga r366.2 275 (Int32.toNatClampNeg x1)))) (Int32.toNatClampNeg z330.2.1)).toInt ≤ 59 := wt_R_ga ri369 10 rfl (255 + (Int32.toNatClampNeg (wt_ga r366.2 275 (Int32.toNatClampNeg x1)))) (show 255 ≤ 255 + (Int32.toNatClampNeg (wt_ga r366.2 275 (Int32.toNatClampNeg x1))) by omega) (show 255 + (Int32.toNatClampNeg (wt_ga r366.2 275 (Int32.toNatClampNeg x1))) < 263 by omega) (Int32.toNatClampNeg z330.2.1)
                        have tt378 : (wt_ga r366.2 (255 + (Int32.toNatClampNeg (wt_ga r366.2 275 (Int32.toNatClampNeg x1)))) (Int32.toNatClampNeg z330.2.1)).toInt = (wt_ga z330.2.2 (255 + (Int32.toNatClampNeg (wt_ga r366.2 275 (Int32.toNatClampNeg x1)))) (Int32.toNatClampNeg z330.2.1)).toInt := congrArg Int32.toInt (f368.2 (255 + (Int32.toNatClampNeg (wt_ga r366.2 275 (Int32.toNatClampNeg x1)))) (by (try dsimp only); omega) (Int32.toNatClampNeg z330.2.1))
                        have bb379 := wt_bd (wt_ga z330.2.2 (255 + (Int32.toNatClampNeg (wt_ga r366.2 275 (Int32.toNatClampNeg x1)))) (Int32.toNatClampNeg z330.2.1))
                        have g380 : 0 ≤ (wt_ga z330.2.2 (255 + (Int32.toNatClampNeg (wt_ga r366.2 275 (Int32.toNatClampNeg x1)))) (Int32.toNatClampNeg z330.2.1)).toInt ∧ (wt_ga z330.2.2 (255 + (Int32.toNatClampNeg (wt_ga r366.2 275 (Int32.toNatClampNeg x1)))) (Int32.toNatClampNeg z330.2.1)).toInt ≤ 59 := wt_R_ga l334 10 rfl (255 + (Int32.toNatClampNeg (wt_ga r366.2 275 (Int32.toNatClampNeg x1)))) (show 255 ≤ 255 + (Int32.toNatClampNeg (wt_ga r366.2 275 (Int32.toNatClampNeg x1))) by omega) (show 255 + (Int32.toNatClampNeg (wt_ga r366.2 275 (Int32.toNatClampNeg x1))) < 263 by omega) (Int32.toNatClampNeg z330.2.1)
                        have tt381 : (wt_ga z330.2.2 (255 + (Int32.toNatClampNeg (wt_ga r366.2 275 (Int32.toNatClampNeg x1)))) (Int32.toNatClampNeg z330.2.1)).toInt = (wt_ga r291.2 (255 + (Int32.toNatClampNeg (wt_ga r366.2 275 (Int32.toNatClampNeg x1)))) (Int32.toNatClampNeg z330.2.1)).toInt := congrArg Int32.toInt (l332.2 (255 + (Int32.toNatClampNeg (wt_ga r366.2 275 (Int32.toNatClampNeg x1)))) (by (try dsimp only); omega) (Int32.toNatClampNeg z330.2.1))
                        have bb382 := wt_bd (wt_ga r291.2 (255 + (Int32.toNatClampNeg (wt_ga r366.2 275 (Int32.toNatClampNeg x1)))) (Int32.toNatClampNeg z330.2.1))
                        have g383 : 0 ≤ (wt_ga r291.2 (255 + (Int32.toNatClampNeg (wt_ga r366.2 275 (Int32.toNatClampNeg x1)))) (Int32.toNatClampNeg z330.2.1)).toInt ∧ (wt_ga r291.2 (255 + (Int32.toNatClampNeg (wt_ga r366.2 275 (Int32.toNatClampNeg x1)))) (Int32.toNatClampNeg z330.2.1)).toInt ≤ 59 := wt_R_ga ri294 10 rfl (255 + (Int32.toNatClampNeg (wt_ga r366.2 275 (Int32.toNatClampNeg x1)))) (show 255 ≤ 255 + (Int32.toNatClampNeg (wt_ga r366.2 275 (Int32.toNatClampNeg x1))) by omega) (show 255 + (Int32.toNatClampNeg (wt_ga r366.2 275 (Int32.toNatClampNeg x1))) < 263 by omega) (Int32.toNatClampNeg z330.2.1)
                        have tt384 : (wt_ga r291.2 (255 + (Int32.toNatClampNeg (wt_ga r366.2 275 (Int32.toNatClampNeg x1)))) (Int32.toNatClampNeg z330.2.1)).toInt = (wt_ga r19.2 (255 + (Int32.toNatClampNeg (wt_ga r366.2 275 (Int32.toNatClampNeg x1)))) (Int32.toNatClampNeg z330.2.1)).toInt := congrArg Int32.toInt (f293.2 (255 + (Int32.toNatClampNeg (wt_ga r366.2 275 (Int32.toNatClampNeg x1)))) (fun z => z) (Int32.toNatClampNeg z330.2.1))
                        have bb385 := wt_bd (wt_ga r19.2 (255 + (Int32.toNatClampNeg (wt_ga r366.2 275 (Int32.toNatClampNeg x1)))) (Int32.toNatClampNeg z330.2.1))
                        have g386 : 0 ≤ (wt_ga r19.2 (255 + (Int32.toNatClampNeg (wt_ga r366.2 275 (Int32.toNatClampNeg x1)))) (Int32.toNatClampNeg z330.2.1)).toInt ∧ (wt_ga r19.2 (255 + (Int32.toNatClampNeg (wt_ga r366.2 275 (Int32.toNatClampNeg x1)))) (Int32.toNatClampNeg z330.2.1)).toInt ≤ 59 := wt_R_ga ri22 10 rfl (255 + (Int32.toNatClampNeg (wt_ga r366.2 275 (Int32.toNatClampNeg x1)))) (show 255 ≤ 255 + (Int32.toNatClampNeg (wt_ga r366.2 275 (Int32.toNatClampNeg x1))) by omega) (show 255 + (Int32.toNatClampNeg (wt_ga r366.2 275 (Int32.toNatClampNeg x1))) < 263 by omega) (Int32.toNatClampNeg z330.2.1)
                        have tt387 : (wt_ga r19.2 (255 + (Int32.toNatClampNeg (wt_ga r366.2 275 (Int32.toNatClampNeg x1)))) (Int32.toNatClampNeg z330.2.1)).toInt = (wt_ga σ3 (255 + (Int32.toNatClampNeg (wt_ga r366.2 275 (Int32.toNatClampNeg x1)))) (Int32.toNatClampNeg z330.2.1)).toInt := congrArg Int32.toInt (f21.2 (255 + (Int32.toNatClampNeg (wt_ga r366.2 275 (Int32.toNatClampNeg x1)))) (fun z => z) (Int32.toNatClampNeg z330.2.1))
                        have bb388 := wt_bd (wt_ga σ3 (255 + (Int32.toNatClampNeg (wt_ga r366.2 275 (Int32.toNatClampNeg x1)))) (Int32.toNatClampNeg z330.2.1))
                        have g389 : 0 ≤ (wt_ga σ3 (255 + (Int32.toNatClampNeg (wt_ga r366.2 275 (Int32.toNatClampNeg x1)))) (Int32.toNatClampNeg z330.2.1)).toInt ∧ (wt_ga σ3 (255 + (Int32.toNatClampNeg (wt_ga r366.2 275 (Int32.toNatClampNeg x1)))) (Int32.toNatClampNeg z330.2.1)).toInt ≤ 59 := wt_R_ga rσ3 10 rfl (255 + (Int32.toNatClampNeg (wt_ga r366.2 275 (Int32.toNatClampNeg x1)))) (show 255 ≤ 255 + (Int32.toNatClampNeg (wt_ga r366.2 275 (Int32.toNatClampNeg x1))) by omega) (show 255 + (Int32.toNatClampNeg (wt_ga r366.2 275 (Int32.toNatClampNeg x1))) < 263 by omega) (Int32.toNatClampNeg z330.2.1)
                        have tt390 : (wt_ga σ3 (255 + (Int32.toNatClampNeg (wt_ga r366.2 275 (Int32.toNatClampNeg x1)))) (Int32.toNatClampNeg z330.2.1)).toInt = (wt_ga σ (255 + (Int32.toNatClampNeg (wt_ga r366.2 275 (Int32.toNatClampNeg x1)))) (Int32.toNatClampNeg z330.2.1)).toInt := congrArg Int32.toInt (fσ3.2 (255 + (Int32.toNatClampNeg (wt_ga r366.2 275 (Int32.toNatClampNeg x1)))) (fun z => z) (Int32.toNatClampNeg z330.2.1))
                        have bb391 := wt_bd (wt_ga σ (255 + (Int32.toNatClampNeg (wt_ga r366.2 275 (Int32.toNatClampNeg x1)))) (Int32.toNatClampNeg z330.2.1))
                        have g392 : 0 ≤ (wt_ga σ (255 + (Int32.toNatClampNeg (wt_ga r366.2 275 (Int32.toNatClampNeg x1)))) (Int32.toNatClampNeg z330.2.1)).toInt ∧ (wt_ga σ (255 + (Int32.toNatClampNeg (wt_ga r366.2 275 (Int32.toNatClampNeg x1)))) (Int32.toNatClampNeg z330.2.1)).toInt ≤ 59 := wt_R_ga r0 10 rfl (255 + (Int32.toNatClampNeg (wt_ga r366.2 275 (Int32.toNatClampNeg x1)))) (show 255 ≤ 255 + (Int32.toNatClampNeg (wt_ga r366.2 275 (Int32.toNatClampNeg x1))) by omega) (show 255 + (Int32.toNatClampNeg (wt_ga r366.2 275 (Int32.toNatClampNeg x1))) < 263 by omega) (Int32.toNatClampNeg z330.2.1)
                        refine wt_T_if (fun h393 => ?_) (fun h393 => ?_)
                        · skip
                          have c394 := wt_ceq h393
                          unfold wp_md_page_B196
                          have bb395 := wt_bd z330.1
                          obtain ⟨j396, j396a, j396b⟩ := wt_addI z330.1 (0 : Int32)
                          obtain ⟨j397, j397a, j397b⟩ := wt_addI z330.2.1 (1 : Int32)
                          refine hKK329 _ ⟨(wt_fr.tr (wt_fr.tr wt_fr.rf l332 (fun i k h => h.elim) (fun i h => by (try dsimp only at h); rcases h with h | h; exact Or.inl (by omega); exact Or.inr ((by omega)))) f368 (fun i k h => h.elim) (fun i h => by (try dsimp only at h); rcases h with h | h; exact Or.inl (by omega); exact Or.inr ((by omega)))), (show 0 ≤ ((z330.2.1 + (1 : Int32))).toInt by omega), ri369⟩ ?_
                          show (12 - (z330.2.1 + (1 : Int32)).toInt).toNat < (12 - z330.2.1.toInt).toNat
                          omega
                        · skip
                          have c398 := wt_nceq h393
                          unfold wp_md_page_B196
                          have bb399 := wt_bd z330.1
                          obtain ⟨j400, j400a, j400b⟩ := wt_addI z330.1 (1 : Int32)
                          obtain ⟨j401, j401a, j401b⟩ := wt_addI z330.2.1 (1 : Int32)
                          refine hKK329 _ ⟨(wt_fr.tr (wt_fr.tr wt_fr.rf l332 (fun i k h => h.elim) (fun i h => by (try dsimp only at h); rcases h with h | h; exact Or.inl (by omega); exact Or.inr ((by omega)))) f368 (fun i k h => h.elim) (fun i h => by (try dsimp only at h); rcases h with h | h; exact Or.inl (by omega); exact Or.inr ((by omega)))), (show 0 ≤ ((z330.2.1 + (1 : Int32))).toInt by omega), ri369⟩ ?_
                          show (12 - (z330.2.1 + (1 : Int32)).toInt).toNat < (12 - z330.2.1.toInt).toNat
                          omega
                      · skip
                        have c402 := wt_nceq h364
                        refine wt_T_some ?_
                        exact ⟨(wt_fr.tr (wt_fr.tr (wt_fr.tr (wt_fr.tr wt_fr.rf fσ3 (fun i k h => by (try dsimp only at h); exact (by omega)) (fun i h => h.elim)) f21 (fun i k h => by (try dsimp only at h); exact (by omega)) (fun i h => h.elim)) f293 (fun i k h => by (try dsimp only at h); exact (by omega)) (fun i h => h.elim)) l332 (fun i k h => h.elim) (fun i h => by (try dsimp only at h); rcases h with h | h; exact Or.inl (by omega); exact Or.inr ((by omega)))), l334⟩
                  · skip
                    exact ⟨wt_fr.rf, (show 0 ≤ ((0 : Int32)).toInt by omega), ri294⟩
                  · skip
                    show (12 - (0 : Int32).toInt).toNat < n
                    omega
                · skip
                  have c403 := wt_ncle h327
                  refine wt_T_if (fun h404 => ?_) (fun h404 => ?_)
                  · skip
                    have c405 := wt_ceq h404
                    refine wt_T_gd (wt_ix (by omega) (by omega)) ?_
                    refine wt_T_gd (wt_ix (by omega) (by omega)) ?_
                    have bb406 := wt_tn z311.2.1
                    have bb407 := wt_bd (wt_ga r291.2 (278 + (Int32.toNatClampNeg x1)) (Int32.toNatClampNeg z311.2.1))
                    have g408 : 0 ≤ (wt_ga r291.2 (278 + (Int32.toNatClampNeg x1)) (Int32.toNatClampNeg z311.2.1)).toInt ∧ (wt_ga r291.2 (278 + (Int32.toNatClampNeg x1)) (Int32.toNatClampNeg z311.2.1)).toInt ≤ 337 := wt_R_ga ri294 14 rfl (278 + (Int32.toNatClampNeg x1)) (show 278 ≤ 278 + (Int32.toNatClampNeg x1) by omega) (show 278 + (Int32.toNatClampNeg x1) < 282 by omega) (Int32.toNatClampNeg z311.2.1)
                    have tt409 : (wt_ga r291.2 (278 + (Int32.toNatClampNeg x1)) (Int32.toNatClampNeg z311.2.1)).toInt = (wt_ga r19.2 (278 + (Int32.toNatClampNeg x1)) (Int32.toNatClampNeg z311.2.1)).toInt := congrArg Int32.toInt (f293.2 (278 + (Int32.toNatClampNeg x1)) (fun z => z) (Int32.toNatClampNeg z311.2.1))
                    have bb410 := wt_bd (wt_ga r19.2 (278 + (Int32.toNatClampNeg x1)) (Int32.toNatClampNeg z311.2.1))
                    have g411 : 0 ≤ (wt_ga r19.2 (278 + (Int32.toNatClampNeg x1)) (Int32.toNatClampNeg z311.2.1)).toInt ∧ (wt_ga r19.2 (278 + (Int32.toNatClampNeg x1)) (Int32.toNatClampNeg z311.2.1)).toInt ≤ 337 := wt_R_ga ri22 14 rfl (278 + (Int32.toNatClampNeg x1)) (show 278 ≤ 278 + (Int32.toNatClampNeg x1) by omega) (show 278 + (Int32.toNatClampNeg x1) < 282 by omega) (Int32.toNatClampNeg z311.2.1)
                    have tt412 : (wt_ga r19.2 (278 + (Int32.toNatClampNeg x1)) (Int32.toNatClampNeg z311.2.1)).toInt = (wt_ga σ3 (278 + (Int32.toNatClampNeg x1)) (Int32.toNatClampNeg z311.2.1)).toInt := congrArg Int32.toInt (f21.2 (278 + (Int32.toNatClampNeg x1)) (fun z => z) (Int32.toNatClampNeg z311.2.1))
                    have bb413 := wt_bd (wt_ga σ3 (278 + (Int32.toNatClampNeg x1)) (Int32.toNatClampNeg z311.2.1))
                    have g414 : 0 ≤ (wt_ga σ3 (278 + (Int32.toNatClampNeg x1)) (Int32.toNatClampNeg z311.2.1)).toInt ∧ (wt_ga σ3 (278 + (Int32.toNatClampNeg x1)) (Int32.toNatClampNeg z311.2.1)).toInt ≤ 337 := wt_R_ga rσ3 14 rfl (278 + (Int32.toNatClampNeg x1)) (show 278 ≤ 278 + (Int32.toNatClampNeg x1) by omega) (show 278 + (Int32.toNatClampNeg x1) < 282 by omega) (Int32.toNatClampNeg z311.2.1)
                    have tt415 : (wt_ga σ3 (278 + (Int32.toNatClampNeg x1)) (Int32.toNatClampNeg z311.2.1)).toInt = (wt_ga σ (278 + (Int32.toNatClampNeg x1)) (Int32.toNatClampNeg z311.2.1)).toInt := congrArg Int32.toInt (fσ3.2 (278 + (Int32.toNatClampNeg x1)) (fun z => z) (Int32.toNatClampNeg z311.2.1))
                    have bb416 := wt_bd (wt_ga σ (278 + (Int32.toNatClampNeg x1)) (Int32.toNatClampNeg z311.2.1))
                    have g417 : 0 ≤ (wt_ga σ (278 + (Int32.toNatClampNeg x1)) (Int32.toNatClampNeg z311.2.1)).toInt ∧ (wt_ga σ (278 + (Int32.toNatClampNeg x1)) (Int32.toNatClampNeg z311.2.1)).toInt ≤ 337 := wt_R_ga r0 14 rfl (278 + (Int32.toNatClampNeg x1)) (show 278 ≤ 278 + (Int32.toNatClampNeg x1) by omega) (show 278 + (Int32.toNatClampNeg x1) < 282 by omega) (Int32.toNatClampNeg z311.2.1)
                    refine wt_T_gd (wt_ix (by omega) (by omega)) ?_
                    have bb418 := wt_bd (wt_gf r291.2 108 25)
                    have tt419 : (wt_gf r291.2 108 25).toInt = (wt_gf r19.2 108 25).toInt := congrArg Int32.toInt (f293.1 108 25 (by (try dsimp only); omega))
                    have bb420 := wt_bd (wt_gf r19.2 108 25)
                    have tt421 : (wt_gf r19.2 108 25).toInt = (wt_gf σ3 108 25).toInt := congrArg Int32.toInt (f21.1 108 25 (by (try dsimp only); omega))
                    have bb422 := wt_bd (wt_gf σ3 108 25)
                    have tt423 : (wt_gf σ3 108 25).toInt = (wt_gf σ 108 25).toInt := congrArg Int32.toInt (fσ3.1 108 25 (by (try dsimp only); omega))
                    have bb424 := wt_bd (wt_gf σ 108 25)
                    have bb425 := wt_tn (wt_ga r291.2 (278 + (Int32.toNatClampNeg x1)) (Int32.toNatClampNeg z311.2.1))
                    have bb426 := wt_bd (wt_ga r291.2 121 (Int32.toNatClampNeg (wt_ga r291.2 (278 + (Int32.toNatClampNeg x1)) (Int32.toNatClampNeg z311.2.1))))
                    have tt427 : (wt_ga r291.2 121 (Int32.toNatClampNeg (wt_ga r291.2 (278 + (Int32.toNatClampNeg x1)) (Int32.toNatClampNeg z311.2.1)))).toInt = (wt_ga r19.2 121 (Int32.toNatClampNeg (wt_ga r291.2 (278 + (Int32.toNatClampNeg x1)) (Int32.toNatClampNeg z311.2.1)))).toInt := congrArg Int32.toInt (f293.2 121 (fun z => z) (Int32.toNatClampNeg (wt_ga r291.2 (278 + (Int32.toNatClampNeg x1)) (Int32.toNatClampNeg z311.2.1))))
                    have bb428 := wt_bd (wt_ga r19.2 121 (Int32.toNatClampNeg (wt_ga r291.2 (278 + (Int32.toNatClampNeg x1)) (Int32.toNatClampNeg z311.2.1))))
                    have tt429 : (wt_ga r19.2 121 (Int32.toNatClampNeg (wt_ga r291.2 (278 + (Int32.toNatClampNeg x1)) (Int32.toNatClampNeg z311.2.1)))).toInt = (wt_ga σ3 121 (Int32.toNatClampNeg (wt_ga r291.2 (278 + (Int32.toNatClampNeg x1)) (Int32.toNatClampNeg z311.2.1)))).toInt := congrArg Int32.toInt (f21.2 121 (fun z => z) (Int32.toNatClampNeg (wt_ga r291.2 (278 + (Int32.toNatClampNeg x1)) (Int32.toNatClampNeg z311.2.1))))
                    have bb430 := wt_bd (wt_ga σ3 121 (Int32.toNatClampNeg (wt_ga r291.2 (278 + (Int32.toNatClampNeg x1)) (Int32.toNatClampNeg z311.2.1))))
                    have tt431 : (wt_ga σ3 121 (Int32.toNatClampNeg (wt_ga r291.2 (278 + (Int32.toNatClampNeg x1)) (Int32.toNatClampNeg z311.2.1)))).toInt = (wt_ga σ 121 (Int32.toNatClampNeg (wt_ga r291.2 (278 + (Int32.toNatClampNeg x1)) (Int32.toNatClampNeg z311.2.1)))).toInt := congrArg Int32.toInt (fσ3.2 121 (fun z => z) (Int32.toNatClampNeg (wt_ga r291.2 (278 + (Int32.toNatClampNeg x1)) (Int32.toNatClampNeg z311.2.1))))
                    have bb432 := wt_bd (wt_ga σ 121 (Int32.toNatClampNeg (wt_ga r291.2 (278 + (Int32.toNatClampNeg x1)) (Int32.toNatClampNeg z311.2.1))))
                    refine wt_T_if (fun h433 => ?_) (fun h433 => ?_)
                    · skip
                      have c434 := wt_cle h433
                      unfold wp_md_page_B134
                      have bb435 := wt_bd z311.1
                      obtain ⟨j436, j436a, j436b⟩ := wt_addI z311.1 (0 : Int32)
                      refine hKK310 _ ⟨rfl, (wt_nn (B := wt_ga z311.2.2 276 (Int32.toNatClampNeg x1)) (by omega) (by first | (rw [l313]; omega) | (rw [l313]; done) | omega))⟩ ?_
                      show ((wt_ga r291.2 276 (Int32.toNatClampNeg x1)).toInt - (z311.2.1 + (1 : Int32)).toInt + 0).toNat < ((wt_ga z311.2.2 276 (Int32.toNatClampNeg x1)).toInt - z311.2.1.toInt + 0).toNat
                      exact wt_mu (by first | (rw [l313]; omega) | (rw [l313]; done) | omega) (by first | (rw [l313]; omega) | (rw [l313]; done) | omega)
                    · skip
                      have c437 := wt_ncle h433
                      unfold wp_md_page_B134
                      have bb438 := wt_bd z311.1
                      obtain ⟨j439, j439a, j439b⟩ := wt_addI z311.1 (1 : Int32)
                      refine hKK310 _ ⟨rfl, (wt_nn (B := wt_ga z311.2.2 276 (Int32.toNatClampNeg x1)) (by omega) (by first | (rw [l313]; omega) | (rw [l313]; done) | omega))⟩ ?_
                      show ((wt_ga r291.2 276 (Int32.toNatClampNeg x1)).toInt - (z311.2.1 + (1 : Int32)).toInt + 0).toNat < ((wt_ga z311.2.2 276 (Int32.toNatClampNeg x1)).toInt - z311.2.1.toInt + 0).toNat
                      exact wt_mu (by first | (rw [l313]; omega) | (rw [l313]; done) | omega) (by first | (rw [l313]; omega) | (rw [l313]; done) | omega)
                  · skip
                    have c440 := wt_nceq h404
                    unfold wp_md_page_B142
                    have bb447 := wt_bd z311.1
                    refine wt_T_it (fun s : Int32 × Int32 × wt_St => wt_fr (fun i k => False) (fun i => i = 290 ∨ i = 289) r291.2 s.2.2 ∧ 0 ≤ (s.2.1).toInt ∧ wt_RI s.2.2) (fun s : Int32 × Int32 × wt_St => (12 - s.2.1.toInt).toNat) (fun KK441 z442 I443 hKK441 => ?_) _ _ ?_ ?_
                    · skip
                      obtain ⟨l444, l445, l446⟩ := I443
                      unfold wp_md_page_B145
                      have bb448 := wt_bd z442.2.1
                      refine wt_T_gd (wt_ix (by omega) (by omega)) ?_
                      have bb449 := wt_bd (wt_ga z442.2.2 275 (Int32.toNatClampNeg x1))
                      have g450 : -1 ≤ (wt_ga z442.2.2 275 (Int32.toNatClampNeg x1)).toInt ∧ (wt_ga z442.2.2 275 (Int32.toNatClampNeg x1)).toInt ≤ 7 := wt_R_ga l446 12 rfl 275 (by decide) (by decide) (Int32.toNatClampNeg x1)
                      have tt451 : (wt_ga z442.2.2 275 (Int32.toNatClampNeg x1)).toInt = (wt_ga r291.2 275 (Int32.toNatClampNeg x1)).toInt := congrArg Int32.toInt (l444.2 275 (by (try dsimp only); omega) (Int32.toNatClampNeg x1))
                      have bb452 := wt_bd (wt_ga r291.2 275 (Int32.toNatClampNeg x1))
                      have g453 : -1 ≤ (wt_ga r291.2 275 (Int32.toNatClampNeg x1)).toInt ∧ (wt_ga r291.2 275 (Int32.toNatClampNeg x1)).toInt ≤ 7 := wt_R_ga ri294 12 rfl 275 (by decide) (by decide) (Int32.toNatClampNeg x1)
                      have tt454 : (wt_ga r291.2 275 (Int32.toNatClampNeg x1)).toInt = (wt_ga r19.2 275 (Int32.toNatClampNeg x1)).toInt := congrArg Int32.toInt (f293.2 275 (fun z => z) (Int32.toNatClampNeg x1))
                      have bb455 := wt_bd (wt_ga r19.2 275 (Int32.toNatClampNeg x1))
                      have g456 : -1 ≤ (wt_ga r19.2 275 (Int32.toNatClampNeg x1)).toInt ∧ (wt_ga r19.2 275 (Int32.toNatClampNeg x1)).toInt ≤ 7 := wt_R_ga ri22 12 rfl 275 (by decide) (by decide) (Int32.toNatClampNeg x1)
                      have tt457 : (wt_ga r19.2 275 (Int32.toNatClampNeg x1)).toInt = (wt_ga σ3 275 (Int32.toNatClampNeg x1)).toInt := congrArg Int32.toInt (f21.2 275 (fun z => z) (Int32.toNatClampNeg x1))
                      refine wt_T_gd (wt_ix (by omega) (by omega)) ?_
                      have bb458 := wt_tn (wt_ga z442.2.2 275 (Int32.toNatClampNeg x1))
                      have bb459 := wt_bd (wt_ga z442.2.2 253 (Int32.toNatClampNeg (wt_ga z442.2.2 275 (Int32.toNatClampNeg x1))))
                      have g460 : 0 ≤ (wt_ga z442.2.2 253 (Int32.toNatClampNeg (wt_ga z442.2.2 275 (Int32.toNatClampNeg x1)))).toInt ∧ (wt_ga z442.2.2 253 (Int32.toNatClampNeg (wt_ga z442.2.2 275 (Int32.toNatClampNeg x1)))).toInt ≤ 12 := wt_R_ga l446 9 rfl 253 (by decide) (by decide) (Int32.toNatClampNeg (wt_ga z442.2.2 275 (Int32.toNatClampNeg x1)))
                      have tt461 : (wt_ga z442.2.2 253 (Int32.toNatClampNeg (wt_ga z442.2.2 275 (Int32.toNatClampNeg x1)))).toInt = (wt_ga r291.2 253 (Int32.toNatClampNeg (wt_ga z442.2.2 275 (Int32.toNatClampNeg x1)))).toInt := congrArg Int32.toInt (l444.2 253 (by (try dsimp only); omega) (Int32.toNatClampNeg (wt_ga z442.2.2 275 (Int32.toNatClampNeg x1))))
                      have bb462 := wt_bd (wt_ga r291.2 253 (Int32.toNatClampNeg (wt_ga z442.2.2 275 (Int32.toNatClampNeg x1))))
                      have g463 : 0 ≤ (wt_ga r291.2 253 (Int32.toNatClampNeg (wt_ga z442.2.2 275 (Int32.toNatClampNeg x1)))).toInt ∧ (wt_ga r291.2 253 (Int32.toNatClampNeg (wt_ga z442.2.2 275 (Int32.toNatClampNeg x1)))).toInt ≤ 12 := wt_R_ga ri294 9 rfl 253 (by decide) (by decide) (Int32.toNatClampNeg (wt_ga z442.2.2 275 (Int32.toNatClampNeg x1)))
                      have tt464 : (wt_ga r291.2 253 (Int32.toNatClampNeg (wt_ga z442.2.2 275 (Int32.toNatClampNeg x1)))).toInt = (wt_ga r19.2 253 (Int32.toNatClampNeg (wt_ga z442.2.2 275 (Int32.toNatClampNeg x1)))).toInt := congrArg Int32.toInt (f293.2 253 (fun z => z) (Int32.toNatClampNeg (wt_ga z442.2.2 275 (Int32.toNatClampNeg x1))))
                      have bb465 := wt_bd (wt_ga r19.2 253 (Int32.toNatClampNeg (wt_ga z442.2.2 275 (Int32.toNatClampNeg x1))))
                      have g466 : 0 ≤ (wt_ga r19.2 253 (Int32.toNatClampNeg (wt_ga z442.2.2 275 (Int32.toNatClampNeg x1)))).toInt ∧ (wt_ga r19.2 253 (Int32.toNatClampNeg (wt_ga z442.2.2 275 (Int32.toNatClampNeg x1)))).toInt ≤ 12 := wt_R_ga ri22 9 rfl 253 (by decide) (by decide) (Int32.toNatClampNeg (wt_ga z442.2.2 275 (Int32.toNatClampNeg x1)))
                      have tt467 : (wt_ga r19.2 253 (Int32.toNatClampNeg (wt_ga z442.2.2 275 (Int32.toNatClampNeg x1)))).toInt = (wt_ga σ3 253 (Int32.toNatClampNeg (wt_ga z442.2.2 275 (Int32.toNatClampNeg x1)))).toInt := congrArg Int32.toInt (f21.2 253 (fun z => z) (Int32.toNatClampNeg (wt_ga z442.2.2 275 (Int32.toNatClampNeg x1))))
                      have bb468 := wt_bd (wt_ga σ3 253 (Int32.toNatClampNeg (wt_ga z442.2.2 275 (Int32.toNatClampNeg x1))))
                      have g469 : 0 ≤ (wt_ga σ3 253 (Int32.toNatClampNeg (wt_ga z442.2.2 275 (Int32.toNatClampNeg x1)))).toInt ∧ (wt_ga σ3 253 (Int32.toNatClampNeg (wt_ga z442.2.2 275 (Int32.toNatClampNeg x1)))).toInt ≤ 12 := wt_R_ga rσ3 9 rfl 253 (by decide) (by decide) (Int32.toNatClampNeg (wt_ga z442.2.2 275 (Int32.toNatClampNeg x1)))
                      have tt470 : (wt_ga σ3 253 (Int32.toNatClampNeg (wt_ga z442.2.2 275 (Int32.toNatClampNeg x1)))).toInt = (wt_ga σ 253 (Int32.toNatClampNeg (wt_ga z442.2.2 275 (Int32.toNatClampNeg x1)))).toInt := congrArg Int32.toInt (fσ3.2 253 (fun z => z) (Int32.toNatClampNeg (wt_ga z442.2.2 275 (Int32.toNatClampNeg x1))))
                      have bb471 := wt_bd (wt_ga σ 253 (Int32.toNatClampNeg (wt_ga z442.2.2 275 (Int32.toNatClampNeg x1))))
                      have g472 : 0 ≤ (wt_ga σ 253 (Int32.toNatClampNeg (wt_ga z442.2.2 275 (Int32.toNatClampNeg x1)))).toInt ∧ (wt_ga σ 253 (Int32.toNatClampNeg (wt_ga z442.2.2 275 (Int32.toNatClampNeg x1)))).toInt ≤ 12 := wt_R_ga r0 9 rfl 253 (by decide) (by decide) (Int32.toNatClampNeg (wt_ga z442.2.2 275 (Int32.toNatClampNeg x1)))
                      refine wt_T_if (fun h473 => ?_) (fun h473 => ?_)
                      · skip
                        have c474 := wt_cle h473
                        refine wt_T_some ?_
                        exact ⟨(wt_fr.tr (wt_fr.tr (wt_fr.tr (wt_fr.tr wt_fr.rf fσ3 (fun i k h => by (try dsimp only at h); exact (by omega)) (fun i h => h.elim)) f21 (fun i k h => by (try dsimp only at h); exact (by omega)) (fun i h => h.elim)) f293 (fun i k h => by (try dsimp only at h); exact (by omega)) (fun i h => h.elim)) l444 (fun i k h => h.elim) (fun i h => by (try dsimp only at h); rcases h with h | h; exact Or.inl (by omega); exact Or.inr ((by omega)))), l446⟩
                      · skip
                        have c475 := wt_ncle h473
                        refine wt_T_if (fun h476 => ?_) (fun h476 => ?_)
                        · skip
                          have c477 := wt_ceq h476
                          refine wt_T_bi (wq_md_readOf n hn x1 z442.2.1 z442.2.2 l446 (by omega) (by omega) (by omega) (by omega) (by omega) (wt_PG_fr (F := fun i k => (i = 108 ∧ k = 0)) (A := fun i => i = 290 ∨ i = 289) r0 p0 (wt_fr.tr (wt_fr.tr (wt_fr.tr (wt_fr.tr wt_fr.rf fσ3 (fun i k h => by (try dsimp only at h); exact (by omega)) (fun i h => h.elim)) f21 (fun i k h => by (try dsimp only at h); exact (by omega)) (fun i h => h.elim)) f293 (fun i k h => by (try dsimp only at h); exact (by omega)) (fun i h => h.elim)) l444 (fun i k h => h.elim) (fun i h => by (try dsimp only at h); rcases h with h | h; exact Or.inl (by omega); exact Or.inr ((by omega)))) (fun i hi => by (try dsimp only); unfold wt_PA at hi; omega))) (fun r478 h479 => ?_)
                          obtain ⟨f480, ri481⟩ := h479
                          have bb482 := wt_bd r478.1
                          refine wt_T_gd (wt_ix (by omega) (by omega)) ?_
                          have bb483 := wt_bd (wt_ga r478.2 275 (Int32.toNatClampNeg x1))
                          have g484 : -1 ≤ (wt_ga r478.2 275 (Int32.toNatClampNeg x1)).toInt ∧ (wt_ga r478.2 275 (Int32.toNatClampNeg x1)).toInt ≤ 7 := wt_R_ga ri481 12 rfl 275 (by decide) (by decide) (Int32.toNatClampNeg x1)
                          have tt485 : (wt_ga r478.2 275 (Int32.toNatClampNeg x1)).toInt = (wt_ga z442.2.2 275 (Int32.toNatClampNeg x1)).toInt := congrArg Int32.toInt (f480.2 275 (by (try dsimp only); omega) (Int32.toNatClampNeg x1))
                          refine wt_T_gd (wt_ix (by omega) (by omega)) ?_
                          refine wt_T_gd (wt_ix (by omega) (by omega)) ?_
                          have bb486 := wt_tn (wt_ga r478.2 275 (Int32.toNatClampNeg x1))
                          have bb487 := wt_tn z442.2.1
                          have bb488 := wt_bd (wt_ga r478.2 (255 + (Int32.toNatClampNeg (wt_ga r478.2 275 (Int32.toNatClampNeg x1)))) (Int32.toNatClampNeg z442.2.1))
                          have g489 : 0 ≤ (wt_ga r478.2 (255 + (Int32.toNatClampNeg (wt_ga r478.2 275 (Int32.toNatClampNeg x1)))) (Int32.toNatClampNeg z442.2.1)).toInt ∧ (wt_ga r478.2 (255 + (Int32.toNatClampNeg (wt_ga r478.2 275 (Int32.toNatClampNeg x1)))) (Int32.toNatClampNeg z442.2.1)).toInt ≤ 59 := wt_R_ga ri481 10 rfl (255 + (Int32.toNatClampNeg (wt_ga r478.2 275 (Int32.toNatClampNeg x1)))) (show 255 ≤ 255 + (Int32.toNatClampNeg (wt_ga r478.2 275 (Int32.toNatClampNeg x1))) by omega) (show 255 + (Int32.toNatClampNeg (wt_ga r478.2 275 (Int32.toNatClampNeg x1))) < 263 by omega) (Int32.toNatClampNeg z442.2.1)
                          have tt490 : (wt_ga r478.2 (255 + (Int32.toNatClampNeg (wt_ga r478.2 275 (Int32.toNatClampNeg x1)))) (Int32.toNatClampNeg z442.2.1)).toInt = (wt_ga z442.2.2 (255 + (Int32.toNatClampNeg (wt_ga r478.2 275 (Int32.toNatClampNeg x1)))) (Int32.toNatClampNeg z442.2.1)).toInt := congrArg Int32.toInt (f480.2 (255 + (Int32.toNatClampNeg (wt_ga r478.2 275 (Int32.toNatClampNeg x1)))) (by (try dsimp only); omega) (Int32.toNatClampNeg z442.2.1))
                          have bb491 := wt_bd (wt_ga z442.2.2 (255 + (Int32.toNatClampNeg (wt_ga r478.2 275 (Int32.toNatClampNeg x1)))) (Int32.toNatClampNeg z442.2.1))
                          have g492 : 0 ≤ (wt_ga z442.2.2 (255 + (Int32.toNatClampNeg (wt_ga r478.2 275 (Int32.toNatClampNeg x1)))) (Int32.toNatClampNeg z442.2.1)).toInt ∧ (wt_ga z442.2.2 (255 + (Int32.toNatClampNeg (wt_ga r478.2 275 (Int32.toNatClampNeg x1)))) (Int32.toNatClampNeg z442.2.1)).toInt ≤ 59 := wt_R_ga l446 10 rfl (255 + (Int32.toNatClampNeg (wt_ga r478.2 275 (Int32.toNatClampNeg x1)))) (show 255 ≤ 255 + (Int32.toNatClampNeg (wt_ga r478.2 275 (Int32.toNatClampNeg x1))) by omega) (show 255 + (Int32.toNatClampNeg (wt_ga r478.2 275 (Int32.toNatClampNeg x1))) < 263 by omega) (Int32.toNatClampNeg z442.2.1)
                          have tt493 : (wt_ga z442.2.2 (255 + (Int32.toNatClampNeg (wt_ga r478.2 275 (Int32.toNatClampNeg x1)))) (Int32.toNatClampNeg z442.2.1)).toInt = (wt_ga r291.2 (255 + (Int32.toNatClampNeg (wt_ga r478.2 275 (Int32.toNatClampNeg x1)))) (Int32.toNatClampNeg z442.2.1)).toInt := congrArg Int32.toInt (l444.2 (255 + (Int32.toNatClampNeg (wt_ga r478.2 275 (Int32.toNatClampNeg x1)))) (by (try dsimp only); omega) (Int32.toNatClampNeg z442.2.1))
                          have bb494 := wt_bd (wt_ga r291.2 (255 + (Int32.toNatClampNeg (wt_ga r478.2 275 (Int32.toNatClampNeg x1)))) (Int32.toNatClampNeg z442.2.1))
                          have g495 : 0 ≤ (wt_ga r291.2 (255 + (Int32.toNatClampNeg (wt_ga r478.2 275 (Int32.toNatClampNeg x1)))) (Int32.toNatClampNeg z442.2.1)).toInt ∧ (wt_ga r291.2 (255 + (Int32.toNatClampNeg (wt_ga r478.2 275 (Int32.toNatClampNeg x1)))) (Int32.toNatClampNeg z442.2.1)).toInt ≤ 59 := wt_R_ga ri294 10 rfl (255 + (Int32.toNatClampNeg (wt_ga r478.2 275 (Int32.toNatClampNeg x1)))) (show 255 ≤ 255 + (Int32.toNatClampNeg (wt_ga r478.2 275 (Int32.toNatClampNeg x1))) by omega) (show 255 + (Int32.toNatClampNeg (wt_ga r478.2 275 (Int32.toNatClampNeg x1))) < 263 by omega) (Int32.toNatClampNeg z442.2.1)
                          have tt496 : (wt_ga r291.2 (255 + (Int32.toNatClampNeg (wt_ga r478.2 275 (Int32.toNatClampNeg x1)))) (Int32.toNatClampNeg z442.2.1)).toInt = (wt_ga r19.2 (255 + (Int32.toNatClampNeg (wt_ga r478.2 275 (Int32.toNatClampNeg x1)))) (Int32.toNatClampNeg z442.2.1)).toInt := congrArg Int32.toInt (f293.2 (255 + (Int32.toNatClampNeg (wt_ga r478.2 275 (Int32.toNatClampNeg x1)))) (fun z => z) (Int32.toNatClampNeg z442.2.1))
                          have bb497 := wt_bd (wt_ga r19.2 (255 + (Int32.toNatClampNeg (wt_ga r478.2 275 (Int32.toNatClampNeg x1)))) (Int32.toNatClampNeg z442.2.1))
                          have g498 : 0 ≤ (wt_ga r19.2 (255 + (Int32.toNatClampNeg (wt_ga r478.2 275 (Int32.toNatClampNeg x1)))) (Int32.toNatClampNeg z442.2.1)).toInt ∧ (wt_ga r19.2 (255 + (Int32.toNatClampNeg (wt_ga r478.2 275 (Int32.toNatClampNeg x1)))) (Int32.toNatClampNeg z442.2.1)).toInt ≤ 59 := wt_R_ga ri22 10 rfl (255 + (Int32.toNatClampNeg (wt_ga r478.2 275 (Int32.toNatClampNeg x1)))) (show 255 ≤ 255 + (Int32.toNatClampNeg (wt_ga r478.2 275 (Int32.toNatClampNeg x1))) by omega) (show 255 + (Int32.toNatClampNeg (wt_ga r478.2 275 (Int32.toNatClampNeg x1))) < 263 by omega) (Int32.toNatClampNeg z442.2.1)
                          have tt499 : (wt_ga r19.2 (255 + (Int32.toNatClampNeg (wt_ga r478.2 275 (Int32.toNatClampNeg x1)))) (Int32.toNatClampNeg z442.2.1)).toInt = (wt_ga σ3 (255 + (Int32.toNatClampNeg (wt_ga r478.2 275 (Int32.toNatClampNeg x1)))) (Int32.toNatClampNeg z442.2.1)).toInt := congrArg Int32.toInt (f21.2 (255 + (Int32.toNatClampNeg (wt_ga r478.2 275 (Int32.toNatClampNeg x1)))) (fun z => z) (Int32.toNatClampNeg z442.2.1))
                          have bb500 := wt_bd (wt_ga σ3 (255 + (Int32.toNatClampNeg (wt_ga r478.2 275 (Int32.toNatClampNeg x1)))) (Int32.toNatClampNeg z442.2.1))
                          have g501 : 0 ≤ (wt_ga σ3 (255 + (Int32.toNatClampNeg (wt_ga r478.2 275 (Int32.toNatClampNeg x1)))) (Int32.toNatClampNeg z442.2.1)).toInt ∧ (wt_ga σ3 (255 + (Int32.toNatClampNeg (wt_ga r478.2 275 (Int32.toNatClampNeg x1)))) (Int32.toNatClampNeg z442.2.1)).toInt ≤ 59 := wt_R_ga rσ3 10 rfl (255 + (Int32.toNatClampNeg (wt_ga r478.2 275 (Int32.toNatClampNeg x1)))) (show 255 ≤ 255 + (Int32.toNatClampNeg (wt_ga r478.2 275 (Int32.toNatClampNeg x1))) by omega) (show 255 + (Int32.toNatClampNeg (wt_ga r478.2 275 (Int32.toNatClampNeg x1))) < 263 by omega) (Int32.toNatClampNeg z442.2.1)
                          have tt502 : (wt_ga σ3 (255 + (Int32.toNatClampNeg (wt_ga r478.2 275 (Int32.toNatClampNeg x1)))) (Int32.toNatClampNeg z442.2.1)).toInt = (wt_ga σ (255 + (Int32.toNatClampNeg (wt_ga r478.2 275 (Int32.toNatClampNeg x1)))) (Int32.toNatClampNeg z442.2.1)).toInt := congrArg Int32.toInt (fσ3.2 (255 + (Int32.toNatClampNeg (wt_ga r478.2 275 (Int32.toNatClampNeg x1)))) (fun z => z) (Int32.toNatClampNeg z442.2.1))
                          have bb503 := wt_bd (wt_ga σ (255 + (Int32.toNatClampNeg (wt_ga r478.2 275 (Int32.toNatClampNeg x1)))) (Int32.toNatClampNeg z442.2.1))
                          have g504 : 0 ≤ (wt_ga σ (255 + (Int32.toNatClampNeg (wt_ga r478.2 275 (Int32.toNatClampNeg x1)))) (Int32.toNatClampNeg z442.2.1)).toInt ∧ (wt_ga σ (255 + (Int32.toNatClampNeg (wt_ga r478.2 275 (Int32.toNatClampNeg x1)))) (Int32.toNatClampNeg z442.2.1)).toInt ≤ 59 := wt_R_ga r0 10 rfl (255 + (Int32.toNatClampNeg (wt_ga r478.2 275 (Int32.toNatClampNeg x1)))) (show 255 ≤ 255 + (Int32.toNatClampNeg (wt_ga r478.2 275 (Int32.toNatClampNeg x1))) by omega) (show 255 + (Int32.toNatClampNeg (wt_ga r478.2 275 (Int32.toNatClampNeg x1))) < 263 by omega) (Int32.toNatClampNeg z442.2.1)
                          refine wt_T_if (fun h505 => ?_) (fun h505 => ?_)
                          · skip
                            have c506 := wt_ceq h505
                            unfold wp_md_page_B196
                            have bb507 := wt_bd z442.1
                            obtain ⟨j508, j508a, j508b⟩ := wt_addI z442.1 (0 : Int32)
                            obtain ⟨j509, j509a, j509b⟩ := wt_addI z442.2.1 (1 : Int32)
                            refine hKK441 _ ⟨(wt_fr.tr (wt_fr.tr wt_fr.rf l444 (fun i k h => h.elim) (fun i h => by (try dsimp only at h); rcases h with h | h; exact Or.inl (by omega); exact Or.inr ((by omega)))) f480 (fun i k h => h.elim) (fun i h => by (try dsimp only at h); rcases h with h | h; exact Or.inl (by omega); exact Or.inr ((by omega)))), (show 0 ≤ ((z442.2.1 + (1 : Int32))).toInt by omega), ri481⟩ ?_
                            show (12 - (z442.2.1 + (1 : Int32)).toInt).toNat < (12 - z442.2.1.toInt).toNat
                            omega
                          · skip
                            have c510 := wt_nceq h505
                            unfold wp_md_page_B196
                            have bb511 := wt_bd z442.1
                            obtain ⟨j512, j512a, j512b⟩ := wt_addI z442.1 (1 : Int32)
                            obtain ⟨j513, j513a, j513b⟩ := wt_addI z442.2.1 (1 : Int32)
                            refine hKK441 _ ⟨(wt_fr.tr (wt_fr.tr wt_fr.rf l444 (fun i k h => h.elim) (fun i h => by (try dsimp only at h); rcases h with h | h; exact Or.inl (by omega); exact Or.inr ((by omega)))) f480 (fun i k h => h.elim) (fun i h => by (try dsimp only at h); rcases h with h | h; exact Or.inl (by omega); exact Or.inr ((by omega)))), (show 0 ≤ ((z442.2.1 + (1 : Int32))).toInt by omega), ri481⟩ ?_
                            show (12 - (z442.2.1 + (1 : Int32)).toInt).toNat < (12 - z442.2.1.toInt).toNat
                            omega
                        · skip
                          have c514 := wt_nceq h476
                          refine wt_T_some ?_
                          exact ⟨(wt_fr.tr (wt_fr.tr (wt_fr.tr (wt_fr.tr wt_fr.rf fσ3 (fun i k h => by (try dsimp only at h); exact (by omega)) (fun i h => h.elim)) f21 (fun i k h => by (try dsimp only at h); exact (by omega)) (fun i h => h.elim)) f293 (fun i k h => by (try dsimp only at h); exact (by omega)) (fun i h => h.elim)) l444 (fun i k h => h.elim) (fun i h => by (try dsimp only at h); rcases h with h | h; exact Or.inl (by omega); exact Or.inr ((by omega)))), l446⟩
                    · skip
                      exact ⟨wt_fr.rf, (show 0 ≤ ((0 : Int32)).toInt by omega), ri294⟩
                    · skip
                      show (12 - (0 : Int32).toInt).toNat < n
                      omega
              · skip
                have bb515 := wt_bd (wt_ga r291.2 276 (Int32.toNatClampNeg x1))
                have g516 : 0 ≤ (wt_ga r291.2 276 (Int32.toNatClampNeg x1)).toInt ∧ (wt_ga r291.2 276 (Int32.toNatClampNeg x1)).toInt ≤ 108 := wt_R_ga ri294 13 rfl 276 (by decide) (by decide) (Int32.toNatClampNeg x1)
                have tt517 : (wt_ga r291.2 276 (Int32.toNatClampNeg x1)).toInt = (wt_ga r19.2 276 (Int32.toNatClampNeg x1)).toInt := congrArg Int32.toInt (f293.2 276 (fun z => z) (Int32.toNatClampNeg x1))
                have bb518 := wt_bd (wt_ga r19.2 276 (Int32.toNatClampNeg x1))
                have g519 : 0 ≤ (wt_ga r19.2 276 (Int32.toNatClampNeg x1)).toInt ∧ (wt_ga r19.2 276 (Int32.toNatClampNeg x1)).toInt ≤ 108 := wt_R_ga ri22 13 rfl 276 (by decide) (by decide) (Int32.toNatClampNeg x1)
                have tt520 : (wt_ga r19.2 276 (Int32.toNatClampNeg x1)).toInt = (wt_ga σ3 276 (Int32.toNatClampNeg x1)).toInt := congrArg Int32.toInt (f21.2 276 (fun z => z) (Int32.toNatClampNeg x1))
                have bb521 := wt_bd (wt_ga σ3 276 (Int32.toNatClampNeg x1))
                have g522 : 0 ≤ (wt_ga σ3 276 (Int32.toNatClampNeg x1)).toInt ∧ (wt_ga σ3 276 (Int32.toNatClampNeg x1)).toInt ≤ 108 := wt_R_ga rσ3 13 rfl 276 (by decide) (by decide) (Int32.toNatClampNeg x1)
                have tt523 : (wt_ga σ3 276 (Int32.toNatClampNeg x1)).toInt = (wt_ga σ 276 (Int32.toNatClampNeg x1)).toInt := congrArg Int32.toInt (fσ3.2 276 (fun z => z) (Int32.toNatClampNeg x1))
                have bb524 := wt_bd (wt_ga σ 276 (Int32.toNatClampNeg x1))
                have g525 : 0 ≤ (wt_ga σ 276 (Int32.toNatClampNeg x1)).toInt ∧ (wt_ga σ 276 (Int32.toNatClampNeg x1)).toInt ≤ 108 := wt_R_ga r0 13 rfl 276 (by decide) (by decide) (Int32.toNatClampNeg x1)
                exact ⟨rfl, (show 0 ≤ ((0 : Int32)).toInt by omega)⟩
              · skip
                have bb526 := wt_bd (wt_ga r291.2 276 (Int32.toNatClampNeg x1))
                have g527 : 0 ≤ (wt_ga r291.2 276 (Int32.toNatClampNeg x1)).toInt ∧ (wt_ga r291.2 276 (Int32.toNatClampNeg x1)).toInt ≤ 108 := wt_R_ga ri294 13 rfl 276 (by decide) (by decide) (Int32.toNatClampNeg x1)
                have tt528 : (wt_ga r291.2 276 (Int32.toNatClampNeg x1)).toInt = (wt_ga r19.2 276 (Int32.toNatClampNeg x1)).toInt := congrArg Int32.toInt (f293.2 276 (fun z => z) (Int32.toNatClampNeg x1))
                have bb529 := wt_bd (wt_ga r19.2 276 (Int32.toNatClampNeg x1))
                have g530 : 0 ≤ (wt_ga r19.2 276 (Int32.toNatClampNeg x1)).toInt ∧ (wt_ga r19.2 276 (Int32.toNatClampNeg x1)).toInt ≤ 108 := wt_R_ga ri22 13 rfl 276 (by decide) (by decide) (Int32.toNatClampNeg x1)
                have tt531 : (wt_ga r19.2 276 (Int32.toNatClampNeg x1)).toInt = (wt_ga σ3 276 (Int32.toNatClampNeg x1)).toInt := congrArg Int32.toInt (f21.2 276 (fun z => z) (Int32.toNatClampNeg x1))
                have bb532 := wt_bd (wt_ga σ3 276 (Int32.toNatClampNeg x1))
                have g533 : 0 ≤ (wt_ga σ3 276 (Int32.toNatClampNeg x1)).toInt ∧ (wt_ga σ3 276 (Int32.toNatClampNeg x1)).toInt ≤ 108 := wt_R_ga rσ3 13 rfl 276 (by decide) (by decide) (Int32.toNatClampNeg x1)
                have tt534 : (wt_ga σ3 276 (Int32.toNatClampNeg x1)).toInt = (wt_ga σ 276 (Int32.toNatClampNeg x1)).toInt := congrArg Int32.toInt (fσ3.2 276 (fun z => z) (Int32.toNatClampNeg x1))
                have bb535 := wt_bd (wt_ga σ 276 (Int32.toNatClampNeg x1))
                have g536 : 0 ≤ (wt_ga σ 276 (Int32.toNatClampNeg x1)).toInt ∧ (wt_ga σ 276 (Int32.toNatClampNeg x1)).toInt ≤ 108 := wt_R_ga r0 13 rfl 276 (by decide) (by decide) (Int32.toNatClampNeg x1)
                show ((wt_ga r291.2 276 (Int32.toNatClampNeg x1)).toInt - (0 : Int32).toInt + 0).toNat < n
                omega
          · skip
            have c537 := wt_ncle h300
            refine wt_T_if (fun h538 => ?_) (fun h538 => ?_)
            · skip
              have c539 := wt_ceq h538
              refine wt_T_gd (wt_ix (by omega) (by omega)) ?_
              refine wt_T_some ?_
              exact ⟨(wt_fr.tr (wt_fr.tr (wt_fr.tr wt_fr.rf fσ3 (fun i k h => by (try dsimp only at h); exact (by omega)) (fun i h => h.elim)) f21 (fun i k h => by (try dsimp only at h); exact (by omega)) (fun i h => h.elim)) f293 (fun i k h => by (try dsimp only at h); exact (by omega)) (fun i h => h.elim)), ri294⟩
            · skip
              have c540 := wt_nceq h538
              refine wt_T_gd (wt_ix (by omega) (by omega)) ?_
              refine wt_T_some ?_
              exact ⟨(wt_fr.tr (wt_fr.tr (wt_fr.tr wt_fr.rf fσ3 (fun i k h => by (try dsimp only at h); exact (by omega)) (fun i h => h.elim)) f21 (fun i k h => by (try dsimp only at h); exact (by omega)) (fun i h => h.elim)) f293 (fun i k h => by (try dsimp only at h); exact (by omega)) (fun i h => h.elim)), ri294⟩
        · skip
          have c541 := wt_nceq h298
          refine wt_T_some ?_
          exact ⟨(wt_fr.tr (wt_fr.tr (wt_fr.tr wt_fr.rf fσ3 (fun i k h => by (try dsimp only at h); exact (by omega)) (fun i h => h.elim)) f21 (fun i k h => by (try dsimp only at h); exact (by omega)) (fun i h => h.elim)) f293 (fun i k h => by (try dsimp only at h); exact (by omega)) (fun i h => h.elim)), ri294⟩
    · skip
      have c542 := wt_nceq h27
      refine wt_T_some ?_
      exact ⟨(wt_fr.tr (wt_fr.tr wt_fr.rf fσ3 (fun i k h => by (try dsimp only at h); exact (by omega)) (fun i h => h.elim)) f21 (fun i k h => by (try dsimp only at h); exact (by omega)) (fun i h => h.elim)), ri22⟩
  · skip
    have c543 := wt_nceq h16
    unfold wp_md_page_B19
    have k544 : (1 : Int32).toInt = 1 := by decide
    refine wt_T_bi (wq_md_bad n hn (0 : Int32) (1 : Int32) σ3 rσ3 (by omega)) (fun r545 h546 => ?_)
    obtain ⟨f547, ri548, pp549⟩ := h546
    have bb550 := wt_bd r545.1
    have bb551 := wt_bd (wt_gf r545.2 108 0)
    have bb552 := wt_bd (wt_gf σ3 108 0)
    refine wt_T_if (fun h553 => ?_) (fun h553 => ?_)
    · skip
      have c554 := wt_ceq h553
      have k555 : (4 : Int32).toInt = 4 := by decide
      refine wt_T_bi (wq_md_in n hn x2 (0 : Int32) (4 : Int32) r545.2 ri548) (fun r556 h557 => ?_)
      obtain ⟨e558, pp559⟩ := h557
      have bb560 := wt_bd r556.1
      rw [e558]
      refine wt_T_if (fun h561 => ?_) (fun h561 => ?_)
      · skip
        have c562 := wt_ceq h561
        unfold wp_md_page_B41
        have k563 : (2 : Int32).toInt = 2 := by decide
        refine wt_T_bi (wq_md_bad n hn (1 : Int32) (2 : Int32) r545.2 ri548 (by omega)) (fun r564 h565 => ?_)
        obtain ⟨f566, ri567, pp568⟩ := h565
        have bb569 := wt_bd r564.1
        have bb570 := wt_bd (wt_gf r564.2 108 0)
        refine wt_T_if (fun h571 => ?_) (fun h571 => ?_)
        · skip
          have c572 := wt_ceq h571
          refine wt_T_if (fun h573 => ?_) (fun h573 => ?_)
          · skip
            have c574 := wt_cle h573
            have k575 : (3 : Int32).toInt = 3 := by decide
            refine wt_T_if (fun h576 => ?_) (fun h576 => ?_)
            · skip
              have c577 := wt_ceq h576
              refine wt_T_bi (wq_md_leastOf n hn x1 r564.2 ri567 (by omega) (by omega)) (fun r578 h579 => ?_)
              have e580 := h579
              have bb581 := wt_bd r578.1
              rw [e580]
              refine wt_T_some ?_
              exact ⟨(wt_fr.tr (wt_fr.tr (wt_fr.tr wt_fr.rf fσ3 (fun i k h => by (try dsimp only at h); exact (by omega)) (fun i h => h.elim)) f547 (fun i k h => by (try dsimp only at h); exact (by omega)) (fun i h => h.elim)) f566 (fun i k h => by (try dsimp only at h); exact (by omega)) (fun i h => h.elim)), ri567⟩
            · skip
              have c582 := wt_nceq h576
              refine wt_T_it (fun s : Int32 × Int32 × wt_St => s.2.2 = r564.2 ∧ 0 ≤ (s.2.1).toInt) (fun s : Int32 × Int32 × wt_St => ((wt_ga s.2.2 276 (Int32.toNatClampNeg x1)).toInt - s.2.1.toInt + 0).toNat) (fun KK583 z584 I585 hKK583 => ?_) _ _ ?_ ?_
              · skip
                obtain ⟨l586, l587⟩ := I585
                unfold wp_md_page_B91
                rw [l586]
                have bb588 := wt_bd (wt_ga r564.2 276 (Int32.toNatClampNeg x1))
                have g589 : 0 ≤ (wt_ga r564.2 276 (Int32.toNatClampNeg x1)).toInt ∧ (wt_ga r564.2 276 (Int32.toNatClampNeg x1)).toInt ≤ 108 := wt_R_ga ri567 13 rfl 276 (by decide) (by decide) (Int32.toNatClampNeg x1)
                have tt590 : (wt_ga r564.2 276 (Int32.toNatClampNeg x1)).toInt = (wt_ga r545.2 276 (Int32.toNatClampNeg x1)).toInt := congrArg Int32.toInt (f566.2 276 (fun z => z) (Int32.toNatClampNeg x1))
                have bb591 := wt_bd (wt_ga r545.2 276 (Int32.toNatClampNeg x1))
                have g592 : 0 ≤ (wt_ga r545.2 276 (Int32.toNatClampNeg x1)).toInt ∧ (wt_ga r545.2 276 (Int32.toNatClampNeg x1)).toInt ≤ 108 := wt_R_ga ri548 13 rfl 276 (by decide) (by decide) (Int32.toNatClampNeg x1)
                have tt593 : (wt_ga r545.2 276 (Int32.toNatClampNeg x1)).toInt = (wt_ga σ3 276 (Int32.toNatClampNeg x1)).toInt := congrArg Int32.toInt (f547.2 276 (fun z => z) (Int32.toNatClampNeg x1))
                have bb594 := wt_bd (wt_ga σ3 276 (Int32.toNatClampNeg x1))
                have g595 : 0 ≤ (wt_ga σ3 276 (Int32.toNatClampNeg x1)).toInt ∧ (wt_ga σ3 276 (Int32.toNatClampNeg x1)).toInt ≤ 108 := wt_R_ga rσ3 13 rfl 276 (by decide) (by decide) (Int32.toNatClampNeg x1)
                have tt596 : (wt_ga σ3 276 (Int32.toNatClampNeg x1)).toInt = (wt_ga σ 276 (Int32.toNatClampNeg x1)).toInt := congrArg Int32.toInt (fσ3.2 276 (fun z => z) (Int32.toNatClampNeg x1))
                have bb597 := wt_bd (wt_ga σ 276 (Int32.toNatClampNeg x1))
                have g598 : 0 ≤ (wt_ga σ 276 (Int32.toNatClampNeg x1)).toInt ∧ (wt_ga σ 276 (Int32.toNatClampNeg x1)).toInt ≤ 108 := wt_R_ga r0 13 rfl 276 (by decide) (by decide) (Int32.toNatClampNeg x1)
                have bb599 := wt_bd z584.2.1
                refine wt_T_gd (wt_ix (by omega) (by omega)) ?_
                refine wt_T_if (fun h600 => ?_) (fun h600 => ?_)
                · skip
                  have c601 := wt_cle h600
                  unfold wp_md_page_B142
                  have bb608 := wt_bd z584.1
                  refine wt_T_it (fun s : Int32 × Int32 × wt_St => wt_fr (fun i k => False) (fun i => i = 290 ∨ i = 289) r564.2 s.2.2 ∧ 0 ≤ (s.2.1).toInt ∧ wt_RI s.2.2) (fun s : Int32 × Int32 × wt_St => (12 - s.2.1.toInt).toNat) (fun KK602 z603 I604 hKK602 => ?_) _ _ ?_ ?_
                  · skip
                    obtain ⟨l605, l606, l607⟩ := I604
                    unfold wp_md_page_B145
                    have bb609 := wt_bd z603.2.1
                    refine wt_T_gd (wt_ix (by omega) (by omega)) ?_
                    have bb610 := wt_bd (wt_ga z603.2.2 275 (Int32.toNatClampNeg x1))
                    have g611 : -1 ≤ (wt_ga z603.2.2 275 (Int32.toNatClampNeg x1)).toInt ∧ (wt_ga z603.2.2 275 (Int32.toNatClampNeg x1)).toInt ≤ 7 := wt_R_ga l607 12 rfl 275 (by decide) (by decide) (Int32.toNatClampNeg x1)
                    have tt612 : (wt_ga z603.2.2 275 (Int32.toNatClampNeg x1)).toInt = (wt_ga r564.2 275 (Int32.toNatClampNeg x1)).toInt := congrArg Int32.toInt (l605.2 275 (by (try dsimp only); omega) (Int32.toNatClampNeg x1))
                    have bb613 := wt_bd (wt_ga r564.2 275 (Int32.toNatClampNeg x1))
                    have g614 : -1 ≤ (wt_ga r564.2 275 (Int32.toNatClampNeg x1)).toInt ∧ (wt_ga r564.2 275 (Int32.toNatClampNeg x1)).toInt ≤ 7 := wt_R_ga ri567 12 rfl 275 (by decide) (by decide) (Int32.toNatClampNeg x1)
                    have tt615 : (wt_ga r564.2 275 (Int32.toNatClampNeg x1)).toInt = (wt_ga r545.2 275 (Int32.toNatClampNeg x1)).toInt := congrArg Int32.toInt (f566.2 275 (fun z => z) (Int32.toNatClampNeg x1))
                    have bb616 := wt_bd (wt_ga r545.2 275 (Int32.toNatClampNeg x1))
                    have g617 : -1 ≤ (wt_ga r545.2 275 (Int32.toNatClampNeg x1)).toInt ∧ (wt_ga r545.2 275 (Int32.toNatClampNeg x1)).toInt ≤ 7 := wt_R_ga ri548 12 rfl 275 (by decide) (by decide) (Int32.toNatClampNeg x1)
                    have tt618 : (wt_ga r545.2 275 (Int32.toNatClampNeg x1)).toInt = (wt_ga σ3 275 (Int32.toNatClampNeg x1)).toInt := congrArg Int32.toInt (f547.2 275 (fun z => z) (Int32.toNatClampNeg x1))
                    refine wt_T_gd (wt_ix (by omega) (by omega)) ?_
                    have bb619 := wt_tn (wt_ga z603.2.2 275 (Int32.toNatClampNeg x1))
                    have bb620 := wt_bd (wt_ga z603.2.2 253 (Int32.toNatClampNeg (wt_ga z603.2.2 275 (Int32.toNatClampNeg x1))))
                    have g621 : 0 ≤ (wt_ga z603.2.2 253 (Int32.toNatClampNeg (wt_ga z603.2.2 275 (Int32.toNatClampNeg x1)))).toInt ∧ (wt_ga z603.2.2 253 (Int32.toNatClampNeg (wt_ga z603.2.2 275 (Int32.toNatClampNeg x1)))).toInt ≤ 12 := wt_R_ga l607 9 rfl 253 (by decide) (by decide) (Int32.toNatClampNeg (wt_ga z603.2.2 275 (Int32.toNatClampNeg x1)))
                    have tt622 : (wt_ga z603.2.2 253 (Int32.toNatClampNeg (wt_ga z603.2.2 275 (Int32.toNatClampNeg x1)))).toInt = (wt_ga r564.2 253 (Int32.toNatClampNeg (wt_ga z603.2.2 275 (Int32.toNatClampNeg x1)))).toInt := congrArg Int32.toInt (l605.2 253 (by (try dsimp only); omega) (Int32.toNatClampNeg (wt_ga z603.2.2 275 (Int32.toNatClampNeg x1))))
                    have bb623 := wt_bd (wt_ga r564.2 253 (Int32.toNatClampNeg (wt_ga z603.2.2 275 (Int32.toNatClampNeg x1))))
                    have g624 : 0 ≤ (wt_ga r564.2 253 (Int32.toNatClampNeg (wt_ga z603.2.2 275 (Int32.toNatClampNeg x1)))).toInt ∧ (wt_ga r564.2 253 (Int32.toNatClampNeg (wt_ga z603.2.2 275 (Int32.toNatClampNeg x1)))).toInt ≤ 12 := wt_R_ga ri567 9 rfl 253 (by decide) (by decide) (Int32.toNatClampNeg (wt_ga z603.2.2 275 (Int32.toNatClampNeg x1)))
                    have tt625 : (wt_ga r564.2 253 (Int32.toNatClampNeg (wt_ga z603.2.2 275 (Int32.toNatClampNeg x1)))).toInt = (wt_ga r545.2 253 (Int32.toNatClampNeg (wt_ga z603.2.2 275 (Int32.toNatClampNeg x1)))).toInt := congrArg Int32.toInt (f566.2 253 (fun z => z) (Int32.toNatClampNeg (wt_ga z603.2.2 275 (Int32.toNatClampNeg x1))))
                    have bb626 := wt_bd (wt_ga r545.2 253 (Int32.toNatClampNeg (wt_ga z603.2.2 275 (Int32.toNatClampNeg x1))))
                    have g627 : 0 ≤ (wt_ga r545.2 253 (Int32.toNatClampNeg (wt_ga z603.2.2 275 (Int32.toNatClampNeg x1)))).toInt ∧ (wt_ga r545.2 253 (Int32.toNatClampNeg (wt_ga z603.2.2 275 (Int32.toNatClampNeg x1)))).toInt ≤ 12 := wt_R_ga ri548 9 rfl 253 (by decide) (by decide) (Int32.toNatClampNeg (wt_ga z603.2.2 275 (Int32.toNatClampNeg x1)))
                    have tt628 : (wt_ga r545.2 253 (Int32.toNatClampNeg (wt_ga z603.2.2 275 (Int32.toNatClampNeg x1)))).toInt = (wt_ga σ3 253 (Int32.toNatClampNeg (wt_ga z603.2.2 275 (Int32.toNatClampNeg x1)))).toInt := congrArg Int32.toInt (f547.2 253 (fun z => z) (Int32.toNatClampNeg (wt_ga z603.2.2 275 (Int32.toNatClampNeg x1))))
                    have bb629 := wt_bd (wt_ga σ3 253 (Int32.toNatClampNeg (wt_ga z603.2.2 275 (Int32.toNatClampNeg x1))))
                    have g630 : 0 ≤ (wt_ga σ3 253 (Int32.toNatClampNeg (wt_ga z603.2.2 275 (Int32.toNatClampNeg x1)))).toInt ∧ (wt_ga σ3 253 (Int32.toNatClampNeg (wt_ga z603.2.2 275 (Int32.toNatClampNeg x1)))).toInt ≤ 12 := wt_R_ga rσ3 9 rfl 253 (by decide) (by decide) (Int32.toNatClampNeg (wt_ga z603.2.2 275 (Int32.toNatClampNeg x1)))
                    have tt631 : (wt_ga σ3 253 (Int32.toNatClampNeg (wt_ga z603.2.2 275 (Int32.toNatClampNeg x1)))).toInt = (wt_ga σ 253 (Int32.toNatClampNeg (wt_ga z603.2.2 275 (Int32.toNatClampNeg x1)))).toInt := congrArg Int32.toInt (fσ3.2 253 (fun z => z) (Int32.toNatClampNeg (wt_ga z603.2.2 275 (Int32.toNatClampNeg x1))))
                    have bb632 := wt_bd (wt_ga σ 253 (Int32.toNatClampNeg (wt_ga z603.2.2 275 (Int32.toNatClampNeg x1))))
                    have g633 : 0 ≤ (wt_ga σ 253 (Int32.toNatClampNeg (wt_ga z603.2.2 275 (Int32.toNatClampNeg x1)))).toInt ∧ (wt_ga σ 253 (Int32.toNatClampNeg (wt_ga z603.2.2 275 (Int32.toNatClampNeg x1)))).toInt ≤ 12 := wt_R_ga r0 9 rfl 253 (by decide) (by decide) (Int32.toNatClampNeg (wt_ga z603.2.2 275 (Int32.toNatClampNeg x1)))
                    refine wt_T_if (fun h634 => ?_) (fun h634 => ?_)
                    · skip
                      have c635 := wt_cle h634
                      refine wt_T_some ?_
                      exact ⟨(wt_fr.tr (wt_fr.tr (wt_fr.tr (wt_fr.tr wt_fr.rf fσ3 (fun i k h => by (try dsimp only at h); exact (by omega)) (fun i h => h.elim)) f547 (fun i k h => by (try dsimp only at h); exact (by omega)) (fun i h => h.elim)) f566 (fun i k h => by (try dsimp only at h); exact (by omega)) (fun i h => h.elim)) l605 (fun i k h => h.elim) (fun i h => by (try dsimp only at h); rcases h with h | h; exact Or.inl (by omega); exact Or.inr ((by omega)))), l607⟩
                    · skip
                      have c636 := wt_ncle h634
                      refine wt_T_if (fun h637 => ?_) (fun h637 => ?_)
                      · skip
                        have c638 := wt_ceq h637
                        refine wt_T_bi (wq_md_readOf n hn x1 z603.2.1 z603.2.2 l607 (by omega) (by omega) (by omega) (by omega) (by omega) (wt_PG_fr (F := fun i k => (i = 108 ∧ k = 0)) (A := fun i => i = 290 ∨ i = 289) r0 p0 (wt_fr.tr (wt_fr.tr (wt_fr.tr (wt_fr.tr wt_fr.rf fσ3 (fun i k h => by (try dsimp only at h); exact (by omega)) (fun i h => h.elim)) f547 (fun i k h => by (try dsimp only at h); exact (by omega)) (fun i h => h.elim)) f566 (fun i k h => by (try dsimp only at h); exact (by omega)) (fun i h => h.elim)) l605 (fun i k h => h.elim) (fun i h => by (try dsimp only at h); rcases h with h | h; exact Or.inl (by omega); exact Or.inr ((by omega)))) (fun i hi => by (try dsimp only); unfold wt_PA at hi; omega))) (fun r639 h640 => ?_)
                        obtain ⟨f641, ri642⟩ := h640
                        have bb643 := wt_bd r639.1
                        refine wt_T_gd (wt_ix (by omega) (by omega)) ?_
                        have bb644 := wt_bd (wt_ga r639.2 275 (Int32.toNatClampNeg x1))
                        have g645 : -1 ≤ (wt_ga r639.2 275 (Int32.toNatClampNeg x1)).toInt ∧ (wt_ga r639.2 275 (Int32.toNatClampNeg x1)).toInt ≤ 7 := wt_R_ga ri642 12 rfl 275 (by decide) (by decide) (Int32.toNatClampNeg x1)
                        have tt646 : (wt_ga r639.2 275 (Int32.toNatClampNeg x1)).toInt = (wt_ga z603.2.2 275 (Int32.toNatClampNeg x1)).toInt := congrArg Int32.toInt (f641.2 275 (by (try dsimp only); omega) (Int32.toNatClampNeg x1))
                        refine wt_T_gd (wt_ix (by omega) (by omega)) ?_
                        refine wt_T_gd (wt_ix (by omega) (by omega)) ?_
                        have bb647 := wt_tn (wt_ga r639.2 275 (Int32.toNatClampNeg x1))
                        have bb648 := wt_tn z603.2.1
                        have bb649 := wt_bd (wt_ga r639.2 (255 + (Int32.toNatClampNeg (wt_ga r639.2 275 (Int32.toNatClampNeg x1)))) (Int32.toNatClampNeg z603.2.1))
                        have g650 : 0 ≤ (wt_ga r639.2 (255 + (Int32.toNatClampNeg (wt_ga r639.2 275 (Int32.toNatClampNeg x1)))) (Int32.toNatClampNeg z603.2.1)).toInt ∧ (wt_ga r639.2 (255 + (Int32.toNatClampNeg (wt_ga r639.2 275 (Int32.toNatClampNeg x1)))) (Int32.toNatClampNeg z603.2.1)).toInt ≤ 59 := wt_R_ga ri642 10 rfl (255 + (Int32.toNatClampNeg (wt_ga r639.2 275 (Int32.toNatClampNeg x1)))) (show 255 ≤ 255 + (Int32.toNatClampNeg (wt_ga r639.2 275 (Int32.toNatClampNeg x1))) by omega) (show 255 + (Int32.toNatClampNeg (wt_ga r639.2 275 (Int32.toNatClampNeg x1))) < 263 by omega) (Int32.toNatClampNeg z603.2.1)
                        have tt651 : (wt_ga r639.2 (255 + (Int32.toNatClampNeg (wt_ga r639.2 275 (Int32.toNatClampNeg x1)))) (Int32.toNatClampNeg z603.2.1)).toInt = (wt_ga z603.2.2 (255 + (Int32.toNatClampNeg (wt_ga r639.2 275 (Int32.toNatClampNeg x1)))) (Int32.toNatClampNeg z603.2.1)).toInt := congrArg Int32.toInt (f641.2 (255 + (Int32.toNatClampNeg (wt_ga r639.2 275 (Int32.toNatClampNeg x1)))) (by (try dsimp only); omega) (Int32.toNatClampNeg z603.2.1))
                        have bb652 := wt_bd (wt_ga z603.2.2 (255 + (Int32.toNatClampNeg (wt_ga r639.2 275 (Int32.toNatClampNeg x1)))) (Int32.toNatClampNeg z603.2.1))
                        have g653 : 0 ≤ (wt_ga z603.2.2 (255 + (Int32.toNatClampNeg (wt_ga r639.2 275 (Int32.toNatClampNeg x1)))) (Int32.toNatClampNeg z603.2.1)).toInt ∧ (wt_ga z603.2.2 (255 + (Int32.toNatClampNeg (wt_ga r639.2 275 (Int32.toNatClampNeg x1)))) (Int32.toNatClampNeg z603.2.1)).toInt ≤ 59 := wt_R_ga l607 10 rfl (255 + (Int32.toNatClampNeg (wt_ga r639.2 275 (Int32.toNatClampNeg x1)))) (show 255 ≤ 255 + (Int32.toNatClampNeg (wt_ga r639.2 275 (Int32.toNatClampNeg x1))) by omega) (show 255 + (Int32.toNatClampNeg (wt_ga r639.2 275 (Int32.toNatClampNeg x1))) < 263 by omega) (Int32.toNatClampNeg z603.2.1)
                        have tt654 : (wt_ga z603.2.2 (255 + (Int32.toNatClampNeg (wt_ga r639.2 275 (Int32.toNatClampNeg x1)))) (Int32.toNatClampNeg z603.2.1)).toInt = (wt_ga r564.2 (255 + (Int32.toNatClampNeg (wt_ga r639.2 275 (Int32.toNatClampNeg x1)))) (Int32.toNatClampNeg z603.2.1)).toInt := congrArg Int32.toInt (l605.2 (255 + (Int32.toNatClampNeg (wt_ga r639.2 275 (Int32.toNatClampNeg x1)))) (by (try dsimp only); omega) (Int32.toNatClampNeg z603.2.1))
                        have bb655 := wt_bd (wt_ga r564.2 (255 + (Int32.toNatClampNeg (wt_ga r639.2 275 (Int32.toNatClampNeg x1)))) (Int32.toNatClampNeg z603.2.1))
                        have g656 : 0 ≤ (wt_ga r564.2 (255 + (Int32.toNatClampNeg (wt_ga r639.2 275 (Int32.toNatClampNeg x1)))) (Int32.toNatClampNeg z603.2.1)).toInt ∧ (wt_ga r564.2 (255 + (Int32.toNatClampNeg (wt_ga r639.2 275 (Int32.toNatClampNeg x1)))) (Int32.toNatClampNeg z603.2.1)).toInt ≤ 59 := wt_R_ga ri567 10 rfl (255 + (Int32.toNatClampNeg (wt_ga r639.2 275 (Int32.toNatClampNeg x1)))) (show 255 ≤ 255 + (Int32.toNatClampNeg (wt_ga r639.2 275 (Int32.toNatClampNeg x1))) by omega) (show 255 + (Int32.toNatClampNeg (wt_ga r639.2 275 (Int32.toNatClampNeg x1))) < 263 by omega) (Int32.toNatClampNeg z603.2.1)
                        have tt657 : (wt_ga r564.2 (255 + (Int32.toNatClampNeg (wt_ga r639.2 275 (Int32.toNatClampNeg x1)))) (Int32.toNatClampNeg z603.2.1)).toInt = (wt_ga r545.2 (255 + (Int32.toNatClampNeg (wt_ga r639.2 275 (Int32.toNatClampNeg x1)))) (Int32.toNatClampNeg z603.2.1)).toInt := congrArg Int32.toInt (f566.2 (255 + (Int32.toNatClampNeg (wt_ga r639.2 275 (Int32.toNatClampNeg x1)))) (fun z => z) (Int32.toNatClampNeg z603.2.1))
                        have bb658 := wt_bd (wt_ga r545.2 (255 + (Int32.toNatClampNeg (wt_ga r639.2 275 (Int32.toNatClampNeg x1)))) (Int32.toNatClampNeg z603.2.1))
                        have g659 : 0 ≤ (wt_ga r545.2 (255 + (Int32.toNatClampNeg (wt_ga r639.2 275 (Int32.toNatClampNeg x1)))) (Int32.toNatClampNeg z603.2.1)).toInt ∧ (wt_ga r545.2 (255 + (Int32.toNatClampNeg (wt_ga r639.2 275 (Int32.toNatClampNeg x1)))) (Int32.toNatClampNeg z603.2.1)).toInt ≤ 59 := wt_R_ga ri548 10 rfl (255 + (Int32.toNatClampNeg (wt_ga r639.2 275 (Int32.toNatClampNeg x1)))) (show 255 ≤ 255 + (Int32.toNatClampNeg (wt_ga r639.2 275 (Int32.toNatClampNeg x1))) by omega) (show 255 + (Int32.toNatClampNeg (wt_ga r639.2 275 (Int32.toNatClampNeg x1))) < 263 by omega) (Int32.toNatClampNeg z603.2.1)
                        have tt660 : (wt_ga r545.2 (255 + (Int32.toNatClampNeg (wt_ga r639.2 275 (Int32.toNatClampNeg x1)))) (Int32.toNatClampNeg z603.2.1)).toInt = (wt_ga σ3 (255 + (Int32.toNatClampNeg (wt_ga r639.2 275 (Int32.toNatClampNeg x1)))) (Int32.toNatClampNeg z603.2.1)).toInt := congrArg Int32.toInt (f547.2 (255 + (Int32.toNatClampNeg (wt_ga r639.2 275 (Int32.toNatClampNeg x1)))) (fun z => z) (Int32.toNatClampNeg z603.2.1))
                        have bb661 := wt_bd (wt_ga σ3 (255 + (Int32.toNatClampNeg (wt_ga r639.2 275 (Int32.toNatClampNeg x1)))) (Int32.toNatClampNeg z603.2.1))
                        have g662 : 0 ≤ (wt_ga σ3 (255 + (Int32.toNatClampNeg (wt_ga r639.2 275 (Int32.toNatClampNeg x1)))) (Int32.toNatClampNeg z603.2.1)).toInt ∧ (wt_ga σ3 (255 + (Int32.toNatClampNeg (wt_ga r639.2 275 (Int32.toNatClampNeg x1)))) (Int32.toNatClampNeg z603.2.1)).toInt ≤ 59 := wt_R_ga rσ3 10 rfl (255 + (Int32.toNatClampNeg (wt_ga r639.2 275 (Int32.toNatClampNeg x1)))) (show 255 ≤ 255 + (Int32.toNatClampNeg (wt_ga r639.2 275 (Int32.toNatClampNeg x1))) by omega) (show 255 + (Int32.toNatClampNeg (wt_ga r639.2 275 (Int32.toNatClampNeg x1))) < 263 by omega) (Int32.toNatClampNeg z603.2.1)
                        have tt663 : (wt_ga σ3 (255 + (Int32.toNatClampNeg (wt_ga r639.2 275 (Int32.toNatClampNeg x1)))) (Int32.toNatClampNeg z603.2.1)).toInt = (wt_ga σ (255 + (Int32.toNatClampNeg (wt_ga r639.2 275 (Int32.toNatClampNeg x1)))) (Int32.toNatClampNeg z603.2.1)).toInt := congrArg Int32.toInt (fσ3.2 (255 + (Int32.toNatClampNeg (wt_ga r639.2 275 (Int32.toNatClampNeg x1)))) (fun z => z) (Int32.toNatClampNeg z603.2.1))
                        have bb664 := wt_bd (wt_ga σ (255 + (Int32.toNatClampNeg (wt_ga r639.2 275 (Int32.toNatClampNeg x1)))) (Int32.toNatClampNeg z603.2.1))
                        have g665 : 0 ≤ (wt_ga σ (255 + (Int32.toNatClampNeg (wt_ga r639.2 275 (Int32.toNatClampNeg x1)))) (Int32.toNatClampNeg z603.2.1)).toInt ∧ (wt_ga σ (255 + (Int32.toNatClampNeg (wt_ga r639.2 275 (Int32.toNatClampNeg x1)))) (Int32.toNatClampNeg z603.2.1)).toInt ≤ 59 := wt_R_ga r0 10 rfl (255 + (Int32.toNatClampNeg (wt_ga r639.2 275 (Int32.toNatClampNeg x1)))) (show 255 ≤ 255 + (Int32.toNatClampNeg (wt_ga r639.2 275 (Int32.toNatClampNeg x1))) by omega) (show 255 + (Int32.toNatClampNeg (wt_ga r639.2 275 (Int32.toNatClampNeg x1))) < 263 by omega) (Int32.toNatClampNeg z603.2.1)
                        refine wt_T_if (fun h666 => ?_) (fun h666 => ?_)
                        · skip
                          have c667 := wt_ceq h666
                          unfold wp_md_page_B196
                          have bb668 := wt_bd z603.1
                          obtain ⟨j669, j669a, j669b⟩ := wt_addI z603.1 (0 : Int32)
                          obtain ⟨j670, j670a, j670b⟩ := wt_addI z603.2.1 (1 : Int32)
                          refine hKK602 _ ⟨(wt_fr.tr (wt_fr.tr wt_fr.rf l605 (fun i k h => h.elim) (fun i h => by (try dsimp only at h); rcases h with h | h; exact Or.inl (by omega); exact Or.inr ((by omega)))) f641 (fun i k h => h.elim) (fun i h => by (try dsimp only at h); rcases h with h | h; exact Or.inl (by omega); exact Or.inr ((by omega)))), (show 0 ≤ ((z603.2.1 + (1 : Int32))).toInt by omega), ri642⟩ ?_
                          show (12 - (z603.2.1 + (1 : Int32)).toInt).toNat < (12 - z603.2.1.toInt).toNat
                          omega
                        · skip
                          have c671 := wt_nceq h666
                          unfold wp_md_page_B196
                          have bb672 := wt_bd z603.1
                          obtain ⟨j673, j673a, j673b⟩ := wt_addI z603.1 (1 : Int32)
                          obtain ⟨j674, j674a, j674b⟩ := wt_addI z603.2.1 (1 : Int32)
                          refine hKK602 _ ⟨(wt_fr.tr (wt_fr.tr wt_fr.rf l605 (fun i k h => h.elim) (fun i h => by (try dsimp only at h); rcases h with h | h; exact Or.inl (by omega); exact Or.inr ((by omega)))) f641 (fun i k h => h.elim) (fun i h => by (try dsimp only at h); rcases h with h | h; exact Or.inl (by omega); exact Or.inr ((by omega)))), (show 0 ≤ ((z603.2.1 + (1 : Int32))).toInt by omega), ri642⟩ ?_
                          show (12 - (z603.2.1 + (1 : Int32)).toInt).toNat < (12 - z603.2.1.toInt).toNat
                          omega
                      · skip
                        have c675 := wt_nceq h637
                        refine wt_T_some ?_
                        exact ⟨(wt_fr.tr (wt_fr.tr (wt_fr.tr (wt_fr.tr wt_fr.rf fσ3 (fun i k h => by (try dsimp only at h); exact (by omega)) (fun i h => h.elim)) f547 (fun i k h => by (try dsimp only at h); exact (by omega)) (fun i h => h.elim)) f566 (fun i k h => by (try dsimp only at h); exact (by omega)) (fun i h => h.elim)) l605 (fun i k h => h.elim) (fun i h => by (try dsimp only at h); rcases h with h | h; exact Or.inl (by omega); exact Or.inr ((by omega)))), l607⟩
                  · skip
                    exact ⟨wt_fr.rf, (show 0 ≤ ((0 : Int32)).toInt by omega), ri567⟩
                  · skip
                    show (12 - (0 : Int32).toInt).toNat < n
                    omega
                · skip
                  have c676 := wt_ncle h600
                  refine wt_T_if (fun h677 => ?_) (fun h677 => ?_)
                  · skip
                    have c678 := wt_ceq h677
                    refine wt_T_gd (wt_ix (by omega) (by omega)) ?_
                    refine wt_T_gd (wt_ix (by omega) (by omega)) ?_
                    have bb679 := wt_tn z584.2.1
                    have bb680 := wt_bd (wt_ga r564.2 (278 + (Int32.toNatClampNeg x1)) (Int32.toNatClampNeg z584.2.1))
                    have g681 : 0 ≤ (wt_ga r564.2 (278 + (Int32.toNatClampNeg x1)) (Int32.toNatClampNeg z584.2.1)).toInt ∧ (wt_ga r564.2 (278 + (Int32.toNatClampNeg x1)) (Int32.toNatClampNeg z584.2.1)).toInt ≤ 337 := wt_R_ga ri567 14 rfl (278 + (Int32.toNatClampNeg x1)) (show 278 ≤ 278 + (Int32.toNatClampNeg x1) by omega) (show 278 + (Int32.toNatClampNeg x1) < 282 by omega) (Int32.toNatClampNeg z584.2.1)
                    have tt682 : (wt_ga r564.2 (278 + (Int32.toNatClampNeg x1)) (Int32.toNatClampNeg z584.2.1)).toInt = (wt_ga r545.2 (278 + (Int32.toNatClampNeg x1)) (Int32.toNatClampNeg z584.2.1)).toInt := congrArg Int32.toInt (f566.2 (278 + (Int32.toNatClampNeg x1)) (fun z => z) (Int32.toNatClampNeg z584.2.1))
                    have bb683 := wt_bd (wt_ga r545.2 (278 + (Int32.toNatClampNeg x1)) (Int32.toNatClampNeg z584.2.1))
                    have g684 : 0 ≤ (wt_ga r545.2 (278 + (Int32.toNatClampNeg x1)) (Int32.toNatClampNeg z584.2.1)).toInt ∧ (wt_ga r545.2 (278 + (Int32.toNatClampNeg x1)) (Int32.toNatClampNeg z584.2.1)).toInt ≤ 337 := wt_R_ga ri548 14 rfl (278 + (Int32.toNatClampNeg x1)) (show 278 ≤ 278 + (Int32.toNatClampNeg x1) by omega) (show 278 + (Int32.toNatClampNeg x1) < 282 by omega) (Int32.toNatClampNeg z584.2.1)
                    have tt685 : (wt_ga r545.2 (278 + (Int32.toNatClampNeg x1)) (Int32.toNatClampNeg z584.2.1)).toInt = (wt_ga σ3 (278 + (Int32.toNatClampNeg x1)) (Int32.toNatClampNeg z584.2.1)).toInt := congrArg Int32.toInt (f547.2 (278 + (Int32.toNatClampNeg x1)) (fun z => z) (Int32.toNatClampNeg z584.2.1))
                    have bb686 := wt_bd (wt_ga σ3 (278 + (Int32.toNatClampNeg x1)) (Int32.toNatClampNeg z584.2.1))
                    have g687 : 0 ≤ (wt_ga σ3 (278 + (Int32.toNatClampNeg x1)) (Int32.toNatClampNeg z584.2.1)).toInt ∧ (wt_ga σ3 (278 + (Int32.toNatClampNeg x1)) (Int32.toNatClampNeg z584.2.1)).toInt ≤ 337 := wt_R_ga rσ3 14 rfl (278 + (Int32.toNatClampNeg x1)) (show 278 ≤ 278 + (Int32.toNatClampNeg x1) by omega) (show 278 + (Int32.toNatClampNeg x1) < 282 by omega) (Int32.toNatClampNeg z584.2.1)
                    have tt688 : (wt_ga σ3 (278 + (Int32.toNatClampNeg x1)) (Int32.toNatClampNeg z584.2.1)).toInt = (wt_ga σ (278 + (Int32.toNatClampNeg x1)) (Int32.toNatClampNeg z584.2.1)).toInt := congrArg Int32.toInt (fσ3.2 (278 + (Int32.toNatClampNeg x1)) (fun z => z) (Int32.toNatClampNeg z584.2.1))
                    have bb689 := wt_bd (wt_ga σ (278 + (Int32.toNatClampNeg x1)) (Int32.toNatClampNeg z584.2.1))
                    have g690 : 0 ≤ (wt_ga σ (278 + (Int32.toNatClampNeg x1)) (Int32.toNatClampNeg z584.2.1)).toInt ∧ (wt_ga σ (278 + (Int32.toNatClampNeg x1)) (Int32.toNatClampNeg z584.2.1)).toInt ≤ 337 := wt_R_ga r0 14 rfl (278 + (Int32.toNatClampNeg x1)) (show 278 ≤ 278 + (Int32.toNatClampNeg x1) by omega) (show 278 + (Int32.toNatClampNeg x1) < 282 by omega) (Int32.toNatClampNeg z584.2.1)
                    refine wt_T_gd (wt_ix (by omega) (by omega)) ?_
                    have bb691 := wt_bd (wt_gf r564.2 108 25)
                    have tt692 : (wt_gf r564.2 108 25).toInt = (wt_gf r545.2 108 25).toInt := congrArg Int32.toInt (f566.1 108 25 (by (try dsimp only); omega))
                    have bb693 := wt_bd (wt_gf r545.2 108 25)
                    have tt694 : (wt_gf r545.2 108 25).toInt = (wt_gf σ3 108 25).toInt := congrArg Int32.toInt (f547.1 108 25 (by (try dsimp only); omega))
                    have bb695 := wt_bd (wt_gf σ3 108 25)
                    have tt696 : (wt_gf σ3 108 25).toInt = (wt_gf σ 108 25).toInt := congrArg Int32.toInt (fσ3.1 108 25 (by (try dsimp only); omega))
                    have bb697 := wt_bd (wt_gf σ 108 25)
                    have bb698 := wt_tn (wt_ga r564.2 (278 + (Int32.toNatClampNeg x1)) (Int32.toNatClampNeg z584.2.1))
                    have bb699 := wt_bd (wt_ga r564.2 121 (Int32.toNatClampNeg (wt_ga r564.2 (278 + (Int32.toNatClampNeg x1)) (Int32.toNatClampNeg z584.2.1))))
                    have tt700 : (wt_ga r564.2 121 (Int32.toNatClampNeg (wt_ga r564.2 (278 + (Int32.toNatClampNeg x1)) (Int32.toNatClampNeg z584.2.1)))).toInt = (wt_ga r545.2 121 (Int32.toNatClampNeg (wt_ga r564.2 (278 + (Int32.toNatClampNeg x1)) (Int32.toNatClampNeg z584.2.1)))).toInt := congrArg Int32.toInt (f566.2 121 (fun z => z) (Int32.toNatClampNeg (wt_ga r564.2 (278 + (Int32.toNatClampNeg x1)) (Int32.toNatClampNeg z584.2.1))))
                    have bb701 := wt_bd (wt_ga r545.2 121 (Int32.toNatClampNeg (wt_ga r564.2 (278 + (Int32.toNatClampNeg x1)) (Int32.toNatClampNeg z584.2.1))))
                    have tt702 : (wt_ga r545.2 121 (Int32.toNatClampNeg (wt_ga r564.2 (278 + (Int32.toNatClampNeg x1)) (Int32.toNatClampNeg z584.2.1)))).toInt = (wt_ga σ3 121 (Int32.toNatClampNeg (wt_ga r564.2 (278 + (Int32.toNatClampNeg x1)) (Int32.toNatClampNeg z584.2.1)))).toInt := congrArg Int32.toInt (f547.2 121 (fun z => z) (Int32.toNatClampNeg (wt_ga r564.2 (278 + (Int32.toNatClampNeg x1)) (Int32.toNatClampNeg z584.2.1))))
                    have bb703 := wt_bd (wt_ga σ3 121 (Int32.toNatClampNeg (wt_ga r564.2 (278 + (Int32.toNatClampNeg x1)) (Int32.toNatClampNeg z584.2.1))))
                    have tt704 : (wt_ga σ3 121 (Int32.toNatClampNeg (wt_ga r564.2 (278 + (Int32.toNatClampNeg x1)) (Int32.toNatClampNeg z584.2.1)))).toInt = (wt_ga σ 121 (Int32.toNatClampNeg (wt_ga r564.2 (278 + (Int32.toNatClampNeg x1)) (Int32.toNatClampNeg z584.2.1)))).toInt := congrArg Int32.toInt (fσ3.2 121 (fun z => z) (Int32.toNatClampNeg (wt_ga r564.2 (278 + (Int32.toNatClampNeg x1)) (Int32.toNatClampNeg z584.2.1))))
                    have bb705 := wt_bd (wt_ga σ 121 (Int32.toNatClampNeg (wt_ga r564.2 (278 + (Int32.toNatClampNeg x1)) (Int32.toNatClampNeg z584.2.1))))
                    refine wt_T_if (fun h706 => ?_) (fun h706 => ?_)
                    · skip
                      have c707 := wt_cle h706
                      unfold wp_md_page_B134
                      have bb708 := wt_bd z584.1
                      obtain ⟨j709, j709a, j709b⟩ := wt_addI z584.1 (0 : Int32)
                      refine hKK583 _ ⟨rfl, (wt_nn (B := wt_ga z584.2.2 276 (Int32.toNatClampNeg x1)) (by omega) (by first | (rw [l586]; omega) | (rw [l586]; done) | omega))⟩ ?_
                      show ((wt_ga r564.2 276 (Int32.toNatClampNeg x1)).toInt - (z584.2.1 + (1 : Int32)).toInt + 0).toNat < ((wt_ga z584.2.2 276 (Int32.toNatClampNeg x1)).toInt - z584.2.1.toInt + 0).toNat
                      exact wt_mu (by first | (rw [l586]; omega) | (rw [l586]; done) | omega) (by first | (rw [l586]; omega) | (rw [l586]; done) | omega)
                    · skip
                      have c710 := wt_ncle h706
                      unfold wp_md_page_B134
                      have bb711 := wt_bd z584.1
                      obtain ⟨j712, j712a, j712b⟩ := wt_addI z584.1 (1 : Int32)
                      refine hKK583 _ ⟨rfl, (wt_nn (B := wt_ga z584.2.2 276 (Int32.toNatClampNeg x1)) (by omega) (by first | (rw [l586]; omega) | (rw [l586]; done) | omega))⟩ ?_
                      show ((wt_ga r564.2 276 (Int32.toNatClampNeg x1)).toInt - (z584.2.1 + (1 : Int32)).toInt + 0).toNat < ((wt_ga z584.2.2 276 (Int32.toNatClampNeg x1)).toInt - z584.2.1.toInt + 0).toNat
                      exact wt_mu (by first | (rw [l586]; omega) | (rw [l586]; done) | omega) (by first | (rw [l586]; omega) | (rw [l586]; done) | omega)
                  · skip
                    have c713 := wt_nceq h677
                    unfold wp_md_page_B142
                    have bb720 := wt_bd z584.1
                    refine wt_T_it (fun s : Int32 × Int32 × wt_St => wt_fr (fun i k => False) (fun i => i = 290 ∨ i = 289) r564.2 s.2.2 ∧ 0 ≤ (s.2.1).toInt ∧ wt_RI s.2.2) (fun s : Int32 × Int32 × wt_St => (12 - s.2.1.toInt).toNat) (fun KK714 z715 I716 hKK714 => ?_) _ _ ?_ ?_
                    · skip
                      obtain ⟨l717, l718, l719⟩ := I716
                      unfold wp_md_page_B145
                      have bb721 := wt_bd z715.2.1
                      refine wt_T_gd (wt_ix (by omega) (by omega)) ?_
                      have bb722 := wt_bd (wt_ga z715.2.2 275 (Int32.toNatClampNeg x1))
                      have g723 : -1 ≤ (wt_ga z715.2.2 275 (Int32.toNatClampNeg x1)).toInt ∧ (wt_ga z715.2.2 275 (Int32.toNatClampNeg x1)).toInt ≤ 7 := wt_R_ga l719 12 rfl 275 (by decide) (by decide) (Int32.toNatClampNeg x1)
                      have tt724 : (wt_ga z715.2.2 275 (Int32.toNatClampNeg x1)).toInt = (wt_ga r564.2 275 (Int32.toNatClampNeg x1)).toInt := congrArg Int32.toInt (l717.2 275 (by (try dsimp only); omega) (Int32.toNatClampNeg x1))
                      have bb725 := wt_bd (wt_ga r564.2 275 (Int32.toNatClampNeg x1))
                      have g726 : -1 ≤ (wt_ga r564.2 275 (Int32.toNatClampNeg x1)).toInt ∧ (wt_ga r564.2 275 (Int32.toNatClampNeg x1)).toInt ≤ 7 := wt_R_ga ri567 12 rfl 275 (by decide) (by decide) (Int32.toNatClampNeg x1)
                      have tt727 : (wt_ga r564.2 275 (Int32.toNatClampNeg x1)).toInt = (wt_ga r545.2 275 (Int32.toNatClampNeg x1)).toInt := congrArg Int32.toInt (f566.2 275 (fun z => z) (Int32.toNatClampNeg x1))
                      have bb728 := wt_bd (wt_ga r545.2 275 (Int32.toNatClampNeg x1))
                      have g729 : -1 ≤ (wt_ga r545.2 275 (Int32.toNatClampNeg x1)).toInt ∧ (wt_ga r545.2 275 (Int32.toNatClampNeg x1)).toInt ≤ 7 := wt_R_ga ri548 12 rfl 275 (by decide) (by decide) (Int32.toNatClampNeg x1)
                      have tt730 : (wt_ga r545.2 275 (Int32.toNatClampNeg x1)).toInt = (wt_ga σ3 275 (Int32.toNatClampNeg x1)).toInt := congrArg Int32.toInt (f547.2 275 (fun z => z) (Int32.toNatClampNeg x1))
                      refine wt_T_gd (wt_ix (by omega) (by omega)) ?_
                      have bb731 := wt_tn (wt_ga z715.2.2 275 (Int32.toNatClampNeg x1))
                      have bb732 := wt_bd (wt_ga z715.2.2 253 (Int32.toNatClampNeg (wt_ga z715.2.2 275 (Int32.toNatClampNeg x1))))
                      have g733 : 0 ≤ (wt_ga z715.2.2 253 (Int32.toNatClampNeg (wt_ga z715.2.2 275 (Int32.toNatClampNeg x1)))).toInt ∧ (wt_ga z715.2.2 253 (Int32.toNatClampNeg (wt_ga z715.2.2 275 (Int32.toNatClampNeg x1)))).toInt ≤ 12 := wt_R_ga l719 9 rfl 253 (by decide) (by decide) (Int32.toNatClampNeg (wt_ga z715.2.2 275 (Int32.toNatClampNeg x1)))
                      have tt734 : (wt_ga z715.2.2 253 (Int32.toNatClampNeg (wt_ga z715.2.2 275 (Int32.toNatClampNeg x1)))).toInt = (wt_ga r564.2 253 (Int32.toNatClampNeg (wt_ga z715.2.2 275 (Int32.toNatClampNeg x1)))).toInt := congrArg Int32.toInt (l717.2 253 (by (try dsimp only); omega) (Int32.toNatClampNeg (wt_ga z715.2.2 275 (Int32.toNatClampNeg x1))))
                      have bb735 := wt_bd (wt_ga r564.2 253 (Int32.toNatClampNeg (wt_ga z715.2.2 275 (Int32.toNatClampNeg x1))))
                      have g736 : 0 ≤ (wt_ga r564.2 253 (Int32.toNatClampNeg (wt_ga z715.2.2 275 (Int32.toNatClampNeg x1)))).toInt ∧ (wt_ga r564.2 253 (Int32.toNatClampNeg (wt_ga z715.2.2 275 (Int32.toNatClampNeg x1)))).toInt ≤ 12 := wt_R_ga ri567 9 rfl 253 (by decide) (by decide) (Int32.toNatClampNeg (wt_ga z715.2.2 275 (Int32.toNatClampNeg x1)))
                      have tt737 : (wt_ga r564.2 253 (Int32.toNatClampNeg (wt_ga z715.2.2 275 (Int32.toNatClampNeg x1)))).toInt = (wt_ga r545.2 253 (Int32.toNatClampNeg (wt_ga z715.2.2 275 (Int32.toNatClampNeg x1)))).toInt := congrArg Int32.toInt (f566.2 253 (fun z => z) (Int32.toNatClampNeg (wt_ga z715.2.2 275 (Int32.toNatClampNeg x1))))
                      have bb738 := wt_bd (wt_ga r545.2 253 (Int32.toNatClampNeg (wt_ga z715.2.2 275 (Int32.toNatClampNeg x1))))
                      have g739 : 0 ≤ (wt_ga r545.2 253 (Int32.toNatClampNeg (wt_ga z715.2.2 275 (Int32.toNatClampNeg x1)))).toInt ∧ (wt_ga r545.2 253 (Int32.toNatClampNeg (wt_ga z715.2.2 275 (Int32.toNatClampNeg x1)))).toInt ≤ 12 := wt_R_ga ri548 9 rfl 253 (by decide) (by decide) (Int32.toNatClampNeg (wt_ga z715.2.2 275 (Int32.toNatClampNeg x1)))
                      have tt740 : (wt_ga r545.2 253 (Int32.toNatClampNeg (wt_ga z715.2.2 275 (Int32.toNatClampNeg x1)))).toInt = (wt_ga σ3 253 (Int32.toNatClampNeg (wt_ga z715.2.2 275 (Int32.toNatClampNeg x1)))).toInt := congrArg Int32.toInt (f547.2 253 (fun z => z) (Int32.toNatClampNeg (wt_ga z715.2.2 275 (Int32.toNatClampNeg x1))))
                      have bb741 := wt_bd (wt_ga σ3 253 (Int32.toNatClampNeg (wt_ga z715.2.2 275 (Int32.toNatClampNeg x1))))
                      have g742 : 0 ≤ (wt_ga σ3 253 (Int32.toNatClampNeg (wt_ga z715.2.2 275 (Int32.toNatClampNeg x1)))).toInt ∧ (wt_ga σ3 253 (Int32.toNatClampNeg (wt_ga z715.2.2 275 (Int32.toNatClampNeg x1)))).toInt ≤ 12 := wt_R_ga rσ3 9 rfl 253 (by decide) (by decide) (Int32.toNatClampNeg (wt_ga z715.2.2 275 (Int32.toNatClampNeg x1)))
                      have tt743 : (wt_ga σ3 253 (Int32.toNatClampNeg (wt_ga z715.2.2 275 (Int32.toNatClampNeg x1)))).toInt = (wt_ga σ 253 (Int32.toNatClampNeg (wt_ga z715.2.2 275 (Int32.toNatClampNeg x1)))).toInt := congrArg Int32.toInt (fσ3.2 253 (fun z => z) (Int32.toNatClampNeg (wt_ga z715.2.2 275 (Int32.toNatClampNeg x1))))
                      have bb744 := wt_bd (wt_ga σ 253 (Int32.toNatClampNeg (wt_ga z715.2.2 275 (Int32.toNatClampNeg x1))))
                      have g745 : 0 ≤ (wt_ga σ 253 (Int32.toNatClampNeg (wt_ga z715.2.2 275 (Int32.toNatClampNeg x1)))).toInt ∧ (wt_ga σ 253 (Int32.toNatClampNeg (wt_ga z715.2.2 275 (Int32.toNatClampNeg x1)))).toInt ≤ 12 := wt_R_ga r0 9 rfl 253 (by decide) (by decide) (Int32.toNatClampNeg (wt_ga z715.2.2 275 (Int32.toNatClampNeg x1)))
                      refine wt_T_if (fun h746 => ?_) (fun h746 => ?_)
                      · skip
                        have c747 := wt_cle h746
                        refine wt_T_some ?_
                        exact ⟨(wt_fr.tr (wt_fr.tr (wt_fr.tr (wt_fr.tr wt_fr.rf fσ3 (fun i k h => by (try dsimp only at h); exact (by omega)) (fun i h => h.elim)) f547 (fun i k h => by (try dsimp only at h); exact (by omega)) (fun i h => h.elim)) f566 (fun i k h => by (try dsimp only at h); exact (by omega)) (fun i h => h.elim)) l717 (fun i k h => h.elim) (fun i h => by (try dsimp only at h); rcases h with h | h; exact Or.inl (by omega); exact Or.inr ((by omega)))), l719⟩
                      · skip
                        have c748 := wt_ncle h746
                        refine wt_T_if (fun h749 => ?_) (fun h749 => ?_)
                        · skip
                          have c750 := wt_ceq h749
                          refine wt_T_bi (wq_md_readOf n hn x1 z715.2.1 z715.2.2 l719 (by omega) (by omega) (by omega) (by omega) (by omega) (wt_PG_fr (F := fun i k => (i = 108 ∧ k = 0)) (A := fun i => i = 290 ∨ i = 289) r0 p0 (wt_fr.tr (wt_fr.tr (wt_fr.tr (wt_fr.tr wt_fr.rf fσ3 (fun i k h => by (try dsimp only at h); exact (by omega)) (fun i h => h.elim)) f547 (fun i k h => by (try dsimp only at h); exact (by omega)) (fun i h => h.elim)) f566 (fun i k h => by (try dsimp only at h); exact (by omega)) (fun i h => h.elim)) l717 (fun i k h => h.elim) (fun i h => by (try dsimp only at h); rcases h with h | h; exact Or.inl (by omega); exact Or.inr ((by omega)))) (fun i hi => by (try dsimp only); unfold wt_PA at hi; omega))) (fun r751 h752 => ?_)
                          obtain ⟨f753, ri754⟩ := h752
                          have bb755 := wt_bd r751.1
                          refine wt_T_gd (wt_ix (by omega) (by omega)) ?_
                          have bb756 := wt_bd (wt_ga r751.2 275 (Int32.toNatClampNeg x1))
                          have g757 : -1 ≤ (wt_ga r751.2 275 (Int32.toNatClampNeg x1)).toInt ∧ (wt_ga r751.2 275 (Int32.toNatClampNeg x1)).toInt ≤ 7 := wt_R_ga ri754 12 rfl 275 (by decide) (by decide) (Int32.toNatClampNeg x1)
                          have tt758 : (wt_ga r751.2 275 (Int32.toNatClampNeg x1)).toInt = (wt_ga z715.2.2 275 (Int32.toNatClampNeg x1)).toInt := congrArg Int32.toInt (f753.2 275 (by (try dsimp only); omega) (Int32.toNatClampNeg x1))
                          refine wt_T_gd (wt_ix (by omega) (by omega)) ?_
                          refine wt_T_gd (wt_ix (by omega) (by omega)) ?_
                          have bb759 := wt_tn (wt_ga r751.2 275 (Int32.toNatClampNeg x1))
                          have bb760 := wt_tn z715.2.1
                          have bb761 := wt_bd (wt_ga r751.2 (255 + (Int32.toNatClampNeg (wt_ga r751.2 275 (Int32.toNatClampNeg x1)))) (Int32.toNatClampNeg z715.2.1))
                          have g762 : 0 ≤ (wt_ga r751.2 (255 + (Int32.toNatClampNeg (wt_ga r751.2 275 (Int32.toNatClampNeg x1)))) (Int32.toNatClampNeg z715.2.1)).toInt ∧ (wt_ga r751.2 (255 + (Int32.toNatClampNeg (wt_ga r751.2 275 (Int32.toNatClampNeg x1)))) (Int32.toNatClampNeg z715.2.1)).toInt ≤ 59 := wt_R_ga ri754 10 rfl (255 + (Int32.toNatClampNeg (wt_ga r751.2 275 (Int32.toNatClampNeg x1)))) (show 255 ≤ 255 + (Int32.toNatClampNeg (wt_ga r751.2 275 (Int32.toNatClampNeg x1))) by omega) (show 255 + (Int32.toNatClampNeg (wt_ga r751.2 275 (Int32.toNatClampNeg x1))) < 263 by omega) (Int32.toNatClampNeg z715.2.1)
                          have tt763 : (wt_ga r751.2 (255 + (Int32.toNatClampNeg (wt_ga r751.2 275 (Int32.toNatClampNeg x1)))) (Int32.toNatClampNeg z715.2.1)).toInt = (wt_ga z715.2.2 (255 + (Int32.toNatClampNeg (wt_ga r751.2 275 (Int32.toNatClampNeg x1)))) (Int32.toNatClampNeg z715.2.1)).toInt := congrArg Int32.toInt (f753.2 (255 + (Int32.toNatClampNeg (wt_ga r751.2 275 (Int32.toNatClampNeg x1)))) (by (try dsimp only); omega) (Int32.toNatClampNeg z715.2.1))
                          have bb764 := wt_bd (wt_ga z715.2.2 (255 + (Int32.toNatClampNeg (wt_ga r751.2 275 (Int32.toNatClampNeg x1)))) (Int32.toNatClampNeg z715.2.1))
                          have g765 : 0 ≤ (wt_ga z715.2.2 (255 + (Int32.toNatClampNeg (wt_ga r751.2 275 (Int32.toNatClampNeg x1)))) (Int32.toNatClampNeg z715.2.1)).toInt ∧ (wt_ga z715.2.2 (255 + (Int32.toNatClampNeg (wt_ga r751.2 275 (Int32.toNatClampNeg x1)))) (Int32.toNatClampNeg z715.2.1)).toInt ≤ 59 := wt_R_ga l719 10 rfl (255 + (Int32.toNatClampNeg (wt_ga r751.2 275 (Int32.toNatClampNeg x1)))) (show 255 ≤ 255 + (Int32.toNatClampNeg (wt_ga r751.2 275 (Int32.toNatClampNeg x1))) by omega) (show 255 + (Int32.toNatClampNeg (wt_ga r751.2 275 (Int32.toNatClampNeg x1))) < 263 by omega) (Int32.toNatClampNeg z715.2.1)
                          have tt766 : (wt_ga z715.2.2 (255 + (Int32.toNatClampNeg (wt_ga r751.2 275 (Int32.toNatClampNeg x1)))) (Int32.toNatClampNeg z715.2.1)).toInt = (wt_ga r564.2 (255 + (Int32.toNatClampNeg (wt_ga r751.2 275 (Int32.toNatClampNeg x1)))) (Int32.toNatClampNeg z715.2.1)).toInt := congrArg Int32.toInt (l717.2 (255 + (Int32.toNatClampNeg (wt_ga r751.2 275 (Int32.toNatClampNeg x1)))) (by (try dsimp only); omega) (Int32.toNatClampNeg z715.2.1))
                          have bb767 := wt_bd (wt_ga r564.2 (255 + (Int32.toNatClampNeg (wt_ga r751.2 275 (Int32.toNatClampNeg x1)))) (Int32.toNatClampNeg z715.2.1))
                          have g768 : 0 ≤ (wt_ga r564.2 (255 + (Int32.toNatClampNeg (wt_ga r751.2 275 (Int32.toNatClampNeg x1)))) (Int32.toNatClampNeg z715.2.1)).toInt ∧ (wt_ga r564.2 (255 + (Int32.toNatClampNeg (wt_ga r751.2 275 (Int32.toNatClampNeg x1)))) (Int32.toNatClampNeg z715.2.1)).toInt ≤ 59 := wt_R_ga ri567 10 rfl (255 + (Int32.toNatClampNeg (wt_ga r751.2 275 (Int32.toNatClampNeg x1)))) (show 255 ≤ 255 + (Int32.toNatClampNeg (wt_ga r751.2 275 (Int32.toNatClampNeg x1))) by omega) (show 255 + (Int32.toNatClampNeg (wt_ga r751.2 275 (Int32.toNatClampNeg x1))) < 263 by omega) (Int32.toNatClampNeg z715.2.1)
                          have tt769 : (wt_ga r564.2 (255 + (Int32.toNatClampNeg (wt_ga r751.2 275 (Int32.toNatClampNeg x1)))) (Int32.toNatClampNeg z715.2.1)).toInt = (wt_ga r545.2 (255 + (Int32.toNatClampNeg (wt_ga r751.2 275 (Int32.toNatClampNeg x1)))) (Int32.toNatClampNeg z715.2.1)).toInt := congrArg Int32.toInt (f566.2 (255 + (Int32.toNatClampNeg (wt_ga r751.2 275 (Int32.toNatClampNeg x1)))) (fun z => z) (Int32.toNatClampNeg z715.2.1))
                          have bb770 := wt_bd (wt_ga r545.2 (255 + (Int32.toNatClampNeg (wt_ga r751.2 275 (Int32.toNatClampNeg x1)))) (Int32.toNatClampNeg z715.2.1))
                          have g771 : 0 ≤ (wt_ga r545.2 (255 + (Int32.toNatClampNeg (wt_ga r751.2 275 (Int32.toNatClampNeg x1)))) (Int32.toNatClampNeg z715.2.1)).toInt ∧ (wt_ga r545.2 (255 + (Int32.toNatClampNeg (wt_ga r751.2 275 (Int32.toNatClampNeg x1)))) (Int32.toNatClampNeg z715.2.1)).toInt ≤ 59 := wt_R_ga ri548 10 rfl (255 + (Int32.toNatClampNeg (wt_ga r751.2 275 (Int32.toNatClampNeg x1)))) (show 255 ≤ 255 + (Int32.toNatClampNeg (wt_ga r751.2 275 (Int32.toNatClampNeg x1))) by omega) (show 255 + (Int32.toNatClampNeg (wt_ga r751.2 275 (Int32.toNatClampNeg x1))) < 263 by omega) (Int32.toNatClampNeg z715.2.1)
                          have tt772 : (wt_ga r545.2 (255 + (Int32.toNatClampNeg (wt_ga r751.2 275 (Int32.toNatClampNeg x1)))) (Int32.toNatClampNeg z715.2.1)).toInt = (wt_ga σ3 (255 + (Int32.toNatClampNeg (wt_ga r751.2 275 (Int32.toNatClampNeg x1)))) (Int32.toNatClampNeg z715.2.1)).toInt := congrArg Int32.toInt (f547.2 (255 + (Int32.toNatClampNeg (wt_ga r751.2 275 (Int32.toNatClampNeg x1)))) (fun z => z) (Int32.toNatClampNeg z715.2.1))
                          have bb773 := wt_bd (wt_ga σ3 (255 + (Int32.toNatClampNeg (wt_ga r751.2 275 (Int32.toNatClampNeg x1)))) (Int32.toNatClampNeg z715.2.1))
                          have g774 : 0 ≤ (wt_ga σ3 (255 + (Int32.toNatClampNeg (wt_ga r751.2 275 (Int32.toNatClampNeg x1)))) (Int32.toNatClampNeg z715.2.1)).toInt ∧ (wt_ga σ3 (255 + (Int32.toNatClampNeg (wt_ga r751.2 275 (Int32.toNatClampNeg x1)))) (Int32.toNatClampNeg z715.2.1)).toInt ≤ 59 := wt_R_ga rσ3 10 rfl (255 + (Int32.toNatClampNeg (wt_ga r751.2 275 (Int32.toNatClampNeg x1)))) (show 255 ≤ 255 + (Int32.toNatClampNeg (wt_ga r751.2 275 (Int32.toNatClampNeg x1))) by omega) (show 255 + (Int32.toNatClampNeg (wt_ga r751.2 275 (Int32.toNatClampNeg x1))) < 263 by omega) (Int32.toNatClampNeg z715.2.1)
                          have tt775 : (wt_ga σ3 (255 + (Int32.toNatClampNeg (wt_ga r751.2 275 (Int32.toNatClampNeg x1)))) (Int32.toNatClampNeg z715.2.1)).toInt = (wt_ga σ (255 + (Int32.toNatClampNeg (wt_ga r751.2 275 (Int32.toNatClampNeg x1)))) (Int32.toNatClampNeg z715.2.1)).toInt := congrArg Int32.toInt (fσ3.2 (255 + (Int32.toNatClampNeg (wt_ga r751.2 275 (Int32.toNatClampNeg x1)))) (fun z => z) (Int32.toNatClampNeg z715.2.1))
                          have bb776 := wt_bd (wt_ga σ (255 + (Int32.toNatClampNeg (wt_ga r751.2 275 (Int32.toNatClampNeg x1)))) (Int32.toNatClampNeg z715.2.1))
                          have g777 : 0 ≤ (wt_ga σ (255 + (Int32.toNatClampNeg (wt_ga r751.2 275 (Int32.toNatClampNeg x1)))) (Int32.toNatClampNeg z715.2.1)).toInt ∧ (wt_ga σ (255 + (Int32.toNatClampNeg (wt_ga r751.2 275 (Int32.toNatClampNeg x1)))) (Int32.toNatClampNeg z715.2.1)).toInt ≤ 59 := wt_R_ga r0 10 rfl (255 + (Int32.toNatClampNeg (wt_ga r751.2 275 (Int32.toNatClampNeg x1)))) (show 255 ≤ 255 + (Int32.toNatClampNeg (wt_ga r751.2 275 (Int32.toNatClampNeg x1))) by omega) (show 255 + (Int32.toNatClampNeg (wt_ga r751.2 275 (Int32.toNatClampNeg x1))) < 263 by omega) (Int32.toNatClampNeg z715.2.1)
                          refine wt_T_if (fun h778 => ?_) (fun h778 => ?_)
                          · skip
                            have c779 := wt_ceq h778
                            unfold wp_md_page_B196
                            have bb780 := wt_bd z715.1
                            obtain ⟨j781, j781a, j781b⟩ := wt_addI z715.1 (0 : Int32)
                            obtain ⟨j782, j782a, j782b⟩ := wt_addI z715.2.1 (1 : Int32)
                            refine hKK714 _ ⟨(wt_fr.tr (wt_fr.tr wt_fr.rf l717 (fun i k h => h.elim) (fun i h => by (try dsimp only at h); rcases h with h | h; exact Or.inl (by omega); exact Or.inr ((by omega)))) f753 (fun i k h => h.elim) (fun i h => by (try dsimp only at h); rcases h with h | h; exact Or.inl (by omega); exact Or.inr ((by omega)))), (show 0 ≤ ((z715.2.1 + (1 : Int32))).toInt by omega), ri754⟩ ?_
                            show (12 - (z715.2.1 + (1 : Int32)).toInt).toNat < (12 - z715.2.1.toInt).toNat
                            omega
                          · skip
                            have c783 := wt_nceq h778
                            unfold wp_md_page_B196
                            have bb784 := wt_bd z715.1
                            obtain ⟨j785, j785a, j785b⟩ := wt_addI z715.1 (1 : Int32)
                            obtain ⟨j786, j786a, j786b⟩ := wt_addI z715.2.1 (1 : Int32)
                            refine hKK714 _ ⟨(wt_fr.tr (wt_fr.tr wt_fr.rf l717 (fun i k h => h.elim) (fun i h => by (try dsimp only at h); rcases h with h | h; exact Or.inl (by omega); exact Or.inr ((by omega)))) f753 (fun i k h => h.elim) (fun i h => by (try dsimp only at h); rcases h with h | h; exact Or.inl (by omega); exact Or.inr ((by omega)))), (show 0 ≤ ((z715.2.1 + (1 : Int32))).toInt by omega), ri754⟩ ?_
                            show (12 - (z715.2.1 + (1 : Int32)).toInt).toNat < (12 - z715.2.1.toInt).toNat
                            omega
                        · skip
                          have c787 := wt_nceq h749
                          refine wt_T_some ?_
                          exact ⟨(wt_fr.tr (wt_fr.tr (wt_fr.tr (wt_fr.tr wt_fr.rf fσ3 (fun i k h => by (try dsimp only at h); exact (by omega)) (fun i h => h.elim)) f547 (fun i k h => by (try dsimp only at h); exact (by omega)) (fun i h => h.elim)) f566 (fun i k h => by (try dsimp only at h); exact (by omega)) (fun i h => h.elim)) l717 (fun i k h => h.elim) (fun i h => by (try dsimp only at h); rcases h with h | h; exact Or.inl (by omega); exact Or.inr ((by omega)))), l719⟩
                    · skip
                      exact ⟨wt_fr.rf, (show 0 ≤ ((0 : Int32)).toInt by omega), ri567⟩
                    · skip
                      show (12 - (0 : Int32).toInt).toNat < n
                      omega
              · skip
                have bb788 := wt_bd (wt_ga r564.2 276 (Int32.toNatClampNeg x1))
                have g789 : 0 ≤ (wt_ga r564.2 276 (Int32.toNatClampNeg x1)).toInt ∧ (wt_ga r564.2 276 (Int32.toNatClampNeg x1)).toInt ≤ 108 := wt_R_ga ri567 13 rfl 276 (by decide) (by decide) (Int32.toNatClampNeg x1)
                have tt790 : (wt_ga r564.2 276 (Int32.toNatClampNeg x1)).toInt = (wt_ga r545.2 276 (Int32.toNatClampNeg x1)).toInt := congrArg Int32.toInt (f566.2 276 (fun z => z) (Int32.toNatClampNeg x1))
                have bb791 := wt_bd (wt_ga r545.2 276 (Int32.toNatClampNeg x1))
                have g792 : 0 ≤ (wt_ga r545.2 276 (Int32.toNatClampNeg x1)).toInt ∧ (wt_ga r545.2 276 (Int32.toNatClampNeg x1)).toInt ≤ 108 := wt_R_ga ri548 13 rfl 276 (by decide) (by decide) (Int32.toNatClampNeg x1)
                have tt793 : (wt_ga r545.2 276 (Int32.toNatClampNeg x1)).toInt = (wt_ga σ3 276 (Int32.toNatClampNeg x1)).toInt := congrArg Int32.toInt (f547.2 276 (fun z => z) (Int32.toNatClampNeg x1))
                have bb794 := wt_bd (wt_ga σ3 276 (Int32.toNatClampNeg x1))
                have g795 : 0 ≤ (wt_ga σ3 276 (Int32.toNatClampNeg x1)).toInt ∧ (wt_ga σ3 276 (Int32.toNatClampNeg x1)).toInt ≤ 108 := wt_R_ga rσ3 13 rfl 276 (by decide) (by decide) (Int32.toNatClampNeg x1)
                have tt796 : (wt_ga σ3 276 (Int32.toNatClampNeg x1)).toInt = (wt_ga σ 276 (Int32.toNatClampNeg x1)).toInt := congrArg Int32.toInt (fσ3.2 276 (fun z => z) (Int32.toNatClampNeg x1))
                have bb797 := wt_bd (wt_ga σ 276 (Int32.toNatClampNeg x1))
                have g798 : 0 ≤ (wt_ga σ 276 (Int32.toNatClampNeg x1)).toInt ∧ (wt_ga σ 276 (Int32.toNatClampNeg x1)).toInt ≤ 108 := wt_R_ga r0 13 rfl 276 (by decide) (by decide) (Int32.toNatClampNeg x1)
                exact ⟨rfl, (show 0 ≤ ((0 : Int32)).toInt by omega)⟩
              · skip
                have bb799 := wt_bd (wt_ga r564.2 276 (Int32.toNatClampNeg x1))
                have g800 : 0 ≤ (wt_ga r564.2 276 (Int32.toNatClampNeg x1)).toInt ∧ (wt_ga r564.2 276 (Int32.toNatClampNeg x1)).toInt ≤ 108 := wt_R_ga ri567 13 rfl 276 (by decide) (by decide) (Int32.toNatClampNeg x1)
                have tt801 : (wt_ga r564.2 276 (Int32.toNatClampNeg x1)).toInt = (wt_ga r545.2 276 (Int32.toNatClampNeg x1)).toInt := congrArg Int32.toInt (f566.2 276 (fun z => z) (Int32.toNatClampNeg x1))
                have bb802 := wt_bd (wt_ga r545.2 276 (Int32.toNatClampNeg x1))
                have g803 : 0 ≤ (wt_ga r545.2 276 (Int32.toNatClampNeg x1)).toInt ∧ (wt_ga r545.2 276 (Int32.toNatClampNeg x1)).toInt ≤ 108 := wt_R_ga ri548 13 rfl 276 (by decide) (by decide) (Int32.toNatClampNeg x1)
                have tt804 : (wt_ga r545.2 276 (Int32.toNatClampNeg x1)).toInt = (wt_ga σ3 276 (Int32.toNatClampNeg x1)).toInt := congrArg Int32.toInt (f547.2 276 (fun z => z) (Int32.toNatClampNeg x1))
                have bb805 := wt_bd (wt_ga σ3 276 (Int32.toNatClampNeg x1))
                have g806 : 0 ≤ (wt_ga σ3 276 (Int32.toNatClampNeg x1)).toInt ∧ (wt_ga σ3 276 (Int32.toNatClampNeg x1)).toInt ≤ 108 := wt_R_ga rσ3 13 rfl 276 (by decide) (by decide) (Int32.toNatClampNeg x1)
                have tt807 : (wt_ga σ3 276 (Int32.toNatClampNeg x1)).toInt = (wt_ga σ 276 (Int32.toNatClampNeg x1)).toInt := congrArg Int32.toInt (fσ3.2 276 (fun z => z) (Int32.toNatClampNeg x1))
                have bb808 := wt_bd (wt_ga σ 276 (Int32.toNatClampNeg x1))
                have g809 : 0 ≤ (wt_ga σ 276 (Int32.toNatClampNeg x1)).toInt ∧ (wt_ga σ 276 (Int32.toNatClampNeg x1)).toInt ≤ 108 := wt_R_ga r0 13 rfl 276 (by decide) (by decide) (Int32.toNatClampNeg x1)
                show ((wt_ga r564.2 276 (Int32.toNatClampNeg x1)).toInt - (0 : Int32).toInt + 0).toNat < n
                omega
          · skip
            have c810 := wt_ncle h573
            refine wt_T_if (fun h811 => ?_) (fun h811 => ?_)
            · skip
              have c812 := wt_ceq h811
              refine wt_T_gd (wt_ix (by omega) (by omega)) ?_
              refine wt_T_some ?_
              exact ⟨(wt_fr.tr (wt_fr.tr (wt_fr.tr wt_fr.rf fσ3 (fun i k h => by (try dsimp only at h); exact (by omega)) (fun i h => h.elim)) f547 (fun i k h => by (try dsimp only at h); exact (by omega)) (fun i h => h.elim)) f566 (fun i k h => by (try dsimp only at h); exact (by omega)) (fun i h => h.elim)), ri567⟩
            · skip
              have c813 := wt_nceq h811
              refine wt_T_gd (wt_ix (by omega) (by omega)) ?_
              refine wt_T_some ?_
              exact ⟨(wt_fr.tr (wt_fr.tr (wt_fr.tr wt_fr.rf fσ3 (fun i k h => by (try dsimp only at h); exact (by omega)) (fun i h => h.elim)) f547 (fun i k h => by (try dsimp only at h); exact (by omega)) (fun i h => h.elim)) f566 (fun i k h => by (try dsimp only at h); exact (by omega)) (fun i h => h.elim)), ri567⟩
        · skip
          have c814 := wt_nceq h571
          refine wt_T_some ?_
          exact ⟨(wt_fr.tr (wt_fr.tr (wt_fr.tr wt_fr.rf fσ3 (fun i k h => by (try dsimp only at h); exact (by omega)) (fun i h => h.elim)) f547 (fun i k h => by (try dsimp only at h); exact (by omega)) (fun i h => h.elim)) f566 (fun i k h => by (try dsimp only at h); exact (by omega)) (fun i h => h.elim)), ri567⟩
      · skip
        have c815 := wt_nceq h561
        unfold wp_md_page_B41
        have k816 : (2 : Int32).toInt = 2 := by decide
        refine wt_T_bi (wq_md_bad n hn (0 : Int32) (2 : Int32) r545.2 ri548 (by omega)) (fun r817 h818 => ?_)
        obtain ⟨f819, ri820, pp821⟩ := h818
        have bb822 := wt_bd r817.1
        have bb823 := wt_bd (wt_gf r817.2 108 0)
        refine wt_T_if (fun h824 => ?_) (fun h824 => ?_)
        · skip
          have c825 := wt_ceq h824
          refine wt_T_if (fun h826 => ?_) (fun h826 => ?_)
          · skip
            have c827 := wt_cle h826
            have k828 : (3 : Int32).toInt = 3 := by decide
            refine wt_T_if (fun h829 => ?_) (fun h829 => ?_)
            · skip
              have c830 := wt_ceq h829
              refine wt_T_bi (wq_md_leastOf n hn x1 r817.2 ri820 (by omega) (by omega)) (fun r831 h832 => ?_)
              have e833 := h832
              have bb834 := wt_bd r831.1
              rw [e833]
              refine wt_T_some ?_
              exact ⟨(wt_fr.tr (wt_fr.tr (wt_fr.tr wt_fr.rf fσ3 (fun i k h => by (try dsimp only at h); exact (by omega)) (fun i h => h.elim)) f547 (fun i k h => by (try dsimp only at h); exact (by omega)) (fun i h => h.elim)) f819 (fun i k h => by (try dsimp only at h); exact (by omega)) (fun i h => h.elim)), ri820⟩
            · skip
              have c835 := wt_nceq h829
              refine wt_T_it (fun s : Int32 × Int32 × wt_St => s.2.2 = r817.2 ∧ 0 ≤ (s.2.1).toInt) (fun s : Int32 × Int32 × wt_St => ((wt_ga s.2.2 276 (Int32.toNatClampNeg x1)).toInt - s.2.1.toInt + 0).toNat) (fun KK836 z837 I838 hKK836 => ?_) _ _ ?_ ?_
              · skip
                obtain ⟨l839, l840⟩ := I838
                unfold wp_md_page_B91
                rw [l839]
                have bb841 := wt_bd (wt_ga r817.2 276 (Int32.toNatClampNeg x1))
                have g842 : 0 ≤ (wt_ga r817.2 276 (Int32.toNatClampNeg x1)).toInt ∧ (wt_ga r817.2 276 (Int32.toNatClampNeg x1)).toInt ≤ 108 := wt_R_ga ri820 13 rfl 276 (by decide) (by decide) (Int32.toNatClampNeg x1)
                have tt843 : (wt_ga r817.2 276 (Int32.toNatClampNeg x1)).toInt = (wt_ga r545.2 276 (Int32.toNatClampNeg x1)).toInt := congrArg Int32.toInt (f819.2 276 (fun z => z) (Int32.toNatClampNeg x1))
                have bb844 := wt_bd (wt_ga r545.2 276 (Int32.toNatClampNeg x1))
                have g845 : 0 ≤ (wt_ga r545.2 276 (Int32.toNatClampNeg x1)).toInt ∧ (wt_ga r545.2 276 (Int32.toNatClampNeg x1)).toInt ≤ 108 := wt_R_ga ri548 13 rfl 276 (by decide) (by decide) (Int32.toNatClampNeg x1)
                have tt846 : (wt_ga r545.2 276 (Int32.toNatClampNeg x1)).toInt = (wt_ga σ3 276 (Int32.toNatClampNeg x1)).toInt := congrArg Int32.toInt (f547.2 276 (fun z => z) (Int32.toNatClampNeg x1))
                have bb847 := wt_bd (wt_ga σ3 276 (Int32.toNatClampNeg x1))
                have g848 : 0 ≤ (wt_ga σ3 276 (Int32.toNatClampNeg x1)).toInt ∧ (wt_ga σ3 276 (Int32.toNatClampNeg x1)).toInt ≤ 108 := wt_R_ga rσ3 13 rfl 276 (by decide) (by decide) (Int32.toNatClampNeg x1)
                have tt849 : (wt_ga σ3 276 (Int32.toNatClampNeg x1)).toInt = (wt_ga σ 276 (Int32.toNatClampNeg x1)).toInt := congrArg Int32.toInt (fσ3.2 276 (fun z => z) (Int32.toNatClampNeg x1))
                have bb850 := wt_bd (wt_ga σ 276 (Int32.toNatClampNeg x1))
                have g851 : 0 ≤ (wt_ga σ 276 (Int32.toNatClampNeg x1)).toInt ∧ (wt_ga σ 276 (Int32.toNatClampNeg x1)).toInt ≤ 108 := wt_R_ga r0 13 rfl 276 (by decide) (by decide) (Int32.toNatClampNeg x1)
                have bb852 := wt_bd z837.2.1
                refine wt_T_gd (wt_ix (by omega) (by omega)) ?_
                refine wt_T_if (fun h853 => ?_) (fun h853 => ?_)
                · skip
                  have c854 := wt_cle h853
                  unfold wp_md_page_B142
                  have bb861 := wt_bd z837.1
                  refine wt_T_it (fun s : Int32 × Int32 × wt_St => wt_fr (fun i k => False) (fun i => i = 290 ∨ i = 289) r817.2 s.2.2 ∧ 0 ≤ (s.2.1).toInt ∧ wt_RI s.2.2) (fun s : Int32 × Int32 × wt_St => (12 - s.2.1.toInt).toNat) (fun KK855 z856 I857 hKK855 => ?_) _ _ ?_ ?_
                  · skip
                    obtain ⟨l858, l859, l860⟩ := I857
                    unfold wp_md_page_B145
                    have bb862 := wt_bd z856.2.1
                    refine wt_T_gd (wt_ix (by omega) (by omega)) ?_
                    have bb863 := wt_bd (wt_ga z856.2.2 275 (Int32.toNatClampNeg x1))
                    have g864 : -1 ≤ (wt_ga z856.2.2 275 (Int32.toNatClampNeg x1)).toInt ∧ (wt_ga z856.2.2 275 (Int32.toNatClampNeg x1)).toInt ≤ 7 := wt_R_ga l860 12 rfl 275 (by decide) (by decide) (Int32.toNatClampNeg x1)
                    have tt865 : (wt_ga z856.2.2 275 (Int32.toNatClampNeg x1)).toInt = (wt_ga r817.2 275 (Int32.toNatClampNeg x1)).toInt := congrArg Int32.toInt (l858.2 275 (by (try dsimp only); omega) (Int32.toNatClampNeg x1))
                    have bb866 := wt_bd (wt_ga r817.2 275 (Int32.toNatClampNeg x1))
                    have g867 : -1 ≤ (wt_ga r817.2 275 (Int32.toNatClampNeg x1)).toInt ∧ (wt_ga r817.2 275 (Int32.toNatClampNeg x1)).toInt ≤ 7 := wt_R_ga ri820 12 rfl 275 (by decide) (by decide) (Int32.toNatClampNeg x1)
                    have tt868 : (wt_ga r817.2 275 (Int32.toNatClampNeg x1)).toInt = (wt_ga r545.2 275 (Int32.toNatClampNeg x1)).toInt := congrArg Int32.toInt (f819.2 275 (fun z => z) (Int32.toNatClampNeg x1))
                    have bb869 := wt_bd (wt_ga r545.2 275 (Int32.toNatClampNeg x1))
                    have g870 : -1 ≤ (wt_ga r545.2 275 (Int32.toNatClampNeg x1)).toInt ∧ (wt_ga r545.2 275 (Int32.toNatClampNeg x1)).toInt ≤ 7 := wt_R_ga ri548 12 rfl 275 (by decide) (by decide) (Int32.toNatClampNeg x1)
                    have tt871 : (wt_ga r545.2 275 (Int32.toNatClampNeg x1)).toInt = (wt_ga σ3 275 (Int32.toNatClampNeg x1)).toInt := congrArg Int32.toInt (f547.2 275 (fun z => z) (Int32.toNatClampNeg x1))
                    refine wt_T_gd (wt_ix (by omega) (by omega)) ?_
                    have bb872 := wt_tn (wt_ga z856.2.2 275 (Int32.toNatClampNeg x1))
                    have bb873 := wt_bd (wt_ga z856.2.2 253 (Int32.toNatClampNeg (wt_ga z856.2.2 275 (Int32.toNatClampNeg x1))))
                    have g874 : 0 ≤ (wt_ga z856.2.2 253 (Int32.toNatClampNeg (wt_ga z856.2.2 275 (Int32.toNatClampNeg x1)))).toInt ∧ (wt_ga z856.2.2 253 (Int32.toNatClampNeg (wt_ga z856.2.2 275 (Int32.toNatClampNeg x1)))).toInt ≤ 12 := wt_R_ga l860 9 rfl 253 (by decide) (by decide) (Int32.toNatClampNeg (wt_ga z856.2.2 275 (Int32.toNatClampNeg x1)))
                    have tt875 : (wt_ga z856.2.2 253 (Int32.toNatClampNeg (wt_ga z856.2.2 275 (Int32.toNatClampNeg x1)))).toInt = (wt_ga r817.2 253 (Int32.toNatClampNeg (wt_ga z856.2.2 275 (Int32.toNatClampNeg x1)))).toInt := congrArg Int32.toInt (l858.2 253 (by (try dsimp only); omega) (Int32.toNatClampNeg (wt_ga z856.2.2 275 (Int32.toNatClampNeg x1))))
                    have bb876 := wt_bd (wt_ga r817.2 253 (Int32.toNatClampNeg (wt_ga z856.2.2 275 (Int32.toNatClampNeg x1))))
                    have g877 : 0 ≤ (wt_ga r817.2 253 (Int32.toNatClampNeg (wt_ga z856.2.2 275 (Int32.toNatClampNeg x1)))).toInt ∧ (wt_ga r817.2 253 (Int32.toNatClampNeg (wt_ga z856.2.2 275 (Int32.toNatClampNeg x1)))).toInt ≤ 12 := wt_R_ga ri820 9 rfl 253 (by decide) (by decide) (Int32.toNatClampNeg (wt_ga z856.2.2 275 (Int32.toNatClampNeg x1)))
                    have tt878 : (wt_ga r817.2 253 (Int32.toNatClampNeg (wt_ga z856.2.2 275 (Int32.toNatClampNeg x1)))).toInt = (wt_ga r545.2 253 (Int32.toNatClampNeg (wt_ga z856.2.2 275 (Int32.toNatClampNeg x1)))).toInt := congrArg Int32.toInt (f819.2 253 (fun z => z) (Int32.toNatClampNeg (wt_ga z856.2.2 275 (Int32.toNatClampNeg x1))))
                    have bb879 := wt_bd (wt_ga r545.2 253 (Int32.toNatClampNeg (wt_ga z856.2.2 275 (Int32.toNatClampNeg x1))))
                    have g880 : 0 ≤ (wt_ga r545.2 253 (Int32.toNatClampNeg (wt_ga z856.2.2 275 (Int32.toNatClampNeg x1)))).toInt ∧ (wt_ga r545.2 253 (Int32.toNatClampNeg (wt_ga z856.2.2 275 (Int32.toNatClampNeg x1)))).toInt ≤ 12 := wt_R_ga ri548 9 rfl 253 (by decide) (by decide) (Int32.toNatClampNeg (wt_ga z856.2.2 275 (Int32.toNatClampNeg x1)))
                    have tt881 : (wt_ga r545.2 253 (Int32.toNatClampNeg (wt_ga z856.2.2 275 (Int32.toNatClampNeg x1)))).toInt = (wt_ga σ3 253 (Int32.toNatClampNeg (wt_ga z856.2.2 275 (Int32.toNatClampNeg x1)))).toInt := congrArg Int32.toInt (f547.2 253 (fun z => z) (Int32.toNatClampNeg (wt_ga z856.2.2 275 (Int32.toNatClampNeg x1))))
                    have bb882 := wt_bd (wt_ga σ3 253 (Int32.toNatClampNeg (wt_ga z856.2.2 275 (Int32.toNatClampNeg x1))))
                    have g883 : 0 ≤ (wt_ga σ3 253 (Int32.toNatClampNeg (wt_ga z856.2.2 275 (Int32.toNatClampNeg x1)))).toInt ∧ (wt_ga σ3 253 (Int32.toNatClampNeg (wt_ga z856.2.2 275 (Int32.toNatClampNeg x1)))).toInt ≤ 12 := wt_R_ga rσ3 9 rfl 253 (by decide) (by decide) (Int32.toNatClampNeg (wt_ga z856.2.2 275 (Int32.toNatClampNeg x1)))
                    have tt884 : (wt_ga σ3 253 (Int32.toNatClampNeg (wt_ga z856.2.2 275 (Int32.toNatClampNeg x1)))).toInt = (wt_ga σ 253 (Int32.toNatClampNeg (wt_ga z856.2.2 275 (Int32.toNatClampNeg x1)))).toInt := congrArg Int32.toInt (fσ3.2 253 (fun z => z) (Int32.toNatClampNeg (wt_ga z856.2.2 275 (Int32.toNatClampNeg x1))))
                    have bb885 := wt_bd (wt_ga σ 253 (Int32.toNatClampNeg (wt_ga z856.2.2 275 (Int32.toNatClampNeg x1))))
                    have g886 : 0 ≤ (wt_ga σ 253 (Int32.toNatClampNeg (wt_ga z856.2.2 275 (Int32.toNatClampNeg x1)))).toInt ∧ (wt_ga σ 253 (Int32.toNatClampNeg (wt_ga z856.2.2 275 (Int32.toNatClampNeg x1)))).toInt ≤ 12 := wt_R_ga r0 9 rfl 253 (by decide) (by decide) (Int32.toNatClampNeg (wt_ga z856.2.2 275 (Int32.toNatClampNeg x1)))
                    refine wt_T_if (fun h887 => ?_) (fun h887 => ?_)
                    · skip
                      have c888 := wt_cle h887
                      refine wt_T_some ?_
                      exact ⟨(wt_fr.tr (wt_fr.tr (wt_fr.tr (wt_fr.tr wt_fr.rf fσ3 (fun i k h => by (try dsimp only at h); exact (by omega)) (fun i h => h.elim)) f547 (fun i k h => by (try dsimp only at h); exact (by omega)) (fun i h => h.elim)) f819 (fun i k h => by (try dsimp only at h); exact (by omega)) (fun i h => h.elim)) l858 (fun i k h => h.elim) (fun i h => by (try dsimp only at h); rcases h with h | h; exact Or.inl (by omega); exact Or.inr ((by omega)))), l860⟩
                    · skip
                      have c889 := wt_ncle h887
                      refine wt_T_if (fun h890 => ?_) (fun h890 => ?_)
                      · skip
                        have c891 := wt_ceq h890
                        refine wt_T_bi (wq_md_readOf n hn x1 z856.2.1 z856.2.2 l860 (by omega) (by omega) (by omega) (by omega) (by omega) (wt_PG_fr (F := fun i k => (i = 108 ∧ k = 0)) (A := fun i => i = 290 ∨ i = 289) r0 p0 (wt_fr.tr (wt_fr.tr (wt_fr.tr (wt_fr.tr wt_fr.rf fσ3 (fun i k h => by (try dsimp only at h); exact (by omega)) (fun i h => h.elim)) f547 (fun i k h => by (try dsimp only at h); exact (by omega)) (fun i h => h.elim)) f819 (fun i k h => by (try dsimp only at h); exact (by omega)) (fun i h => h.elim)) l858 (fun i k h => h.elim) (fun i h => by (try dsimp only at h); rcases h with h | h; exact Or.inl (by omega); exact Or.inr ((by omega)))) (fun i hi => by (try dsimp only); unfold wt_PA at hi; omega))) (fun r892 h893 => ?_)
                        obtain ⟨f894, ri895⟩ := h893
                        have bb896 := wt_bd r892.1
                        refine wt_T_gd (wt_ix (by omega) (by omega)) ?_
                        have bb897 := wt_bd (wt_ga r892.2 275 (Int32.toNatClampNeg x1))
                        have g898 : -1 ≤ (wt_ga r892.2 275 (Int32.toNatClampNeg x1)).toInt ∧ (wt_ga r892.2 275 (Int32.toNatClampNeg x1)).toInt ≤ 7 := wt_R_ga ri895 12 rfl 275 (by decide) (by decide) (Int32.toNatClampNeg x1)
                        have tt899 : (wt_ga r892.2 275 (Int32.toNatClampNeg x1)).toInt = (wt_ga z856.2.2 275 (Int32.toNatClampNeg x1)).toInt := congrArg Int32.toInt (f894.2 275 (by (try dsimp only); omega) (Int32.toNatClampNeg x1))
                        refine wt_T_gd (wt_ix (by omega) (by omega)) ?_
                        refine wt_T_gd (wt_ix (by omega) (by omega)) ?_
                        have bb900 := wt_tn (wt_ga r892.2 275 (Int32.toNatClampNeg x1))
                        have bb901 := wt_tn z856.2.1
                        have bb902 := wt_bd (wt_ga r892.2 (255 + (Int32.toNatClampNeg (wt_ga r892.2 275 (Int32.toNatClampNeg x1)))) (Int32.toNatClampNeg z856.2.1))
                        have g903 : 0 ≤ (wt_ga r892.2 (255 + (Int32.toNatClampNeg (wt_ga r892.2 275 (Int32.toNatClampNeg x1)))) (Int32.toNatClampNeg z856.2.1)).toInt ∧ (wt_ga r892.2 (255 + (Int32.toNatClampNeg (wt_ga r892.2 275 (Int32.toNatClampNeg x1)))) (Int32.toNatClampNeg z856.2.1)).toInt ≤ 59 := wt_R_ga ri895 10 rfl (255 + (Int32.toNatClampNeg (wt_ga r892.2 275 (Int32.toNatClampNeg x1)))) (show 255 ≤ 255 + (Int32.toNatClampNeg (wt_ga r892.2 275 (Int32.toNatClampNeg x1))) by omega) (show 255 + (Int32.toNatClampNeg (wt_ga r892.2 275 (Int32.toNatClampNeg x1))) < 263 by omega) (Int32.toNatClampNeg z856.2.1)
                        have tt904 : (wt_ga r892.2 (255 + (Int32.toNatClampNeg (wt_ga r892.2 275 (Int32.toNatClampNeg x1)))) (Int32.toNatClampNeg z856.2.1)).toInt = (wt_ga z856.2.2 (255 + (Int32.toNatClampNeg (wt_ga r892.2 275 (Int32.toNatClampNeg x1)))) (Int32.toNatClampNeg z856.2.1)).toInt := congrArg Int32.toInt (f894.2 (255 + (Int32.toNatClampNeg (wt_ga r892.2 275 (Int32.toNatClampNeg x1)))) (by (try dsimp only); omega) (Int32.toNatClampNeg z856.2.1))
                        have bb905 := wt_bd (wt_ga z856.2.2 (255 + (Int32.toNatClampNeg (wt_ga r892.2 275 (Int32.toNatClampNeg x1)))) (Int32.toNatClampNeg z856.2.1))
                        have g906 : 0 ≤ (wt_ga z856.2.2 (255 + (Int32.toNatClampNeg (wt_ga r892.2 275 (Int32.toNatClampNeg x1)))) (Int32.toNatClampNeg z856.2.1)).toInt ∧ (wt_ga z856.2.2 (255 + (Int32.toNatClampNeg (wt_ga r892.2 275 (Int32.toNatClampNeg x1)))) (Int32.toNatClampNeg z856.2.1)).toInt ≤ 59 := wt_R_ga l860 10 rfl (255 + (Int32.toNatClampNeg (wt_ga r892.2 275 (Int32.toNatClampNeg x1)))) (show 255 ≤ 255 + (Int32.toNatClampNeg (wt_ga r892.2 275 (Int32.toNatClampNeg x1))) by omega) (show 255 + (Int32.toNatClampNeg (wt_ga r892.2 275 (Int32.toNatClampNeg x1))) < 263 by omega) (Int32.toNatClampNeg z856.2.1)
                        have tt907 : (wt_ga z856.2.2 (255 + (Int32.toNatClampNeg (wt_ga r892.2 275 (Int32.toNatClampNeg x1)))) (Int32.toNatClampNeg z856.2.1)).toInt = (wt_ga r817.2 (255 + (Int32.toNatClampNeg (wt_ga r892.2 275 (Int32.toNatClampNeg x1)))) (Int32.toNatClampNeg z856.2.1)).toInt := congrArg Int32.toInt (l858.2 (255 + (Int32.toNatClampNeg (wt_ga r892.2 275 (Int32.toNatClampNeg x1)))) (by (try dsimp only); omega) (Int32.toNatClampNeg z856.2.1))
                        have bb908 := wt_bd (wt_ga r817.2 (255 + (Int32.toNatClampNeg (wt_ga r892.2 275 (Int32.toNatClampNeg x1)))) (Int32.toNatClampNeg z856.2.1))
                        have g909 : 0 ≤ (wt_ga r817.2 (255 + (Int32.toNatClampNeg (wt_ga r892.2 275 (Int32.toNatClampNeg x1)))) (Int32.toNatClampNeg z856.2.1)).toInt ∧ (wt_ga r817.2 (255 + (Int32.toNatClampNeg (wt_ga r892.2 275 (Int32.toNatClampNeg x1)))) (Int32.toNatClampNeg z856.2.1)).toInt ≤ 59 := wt_R_ga ri820 10 rfl (255 + (Int32.toNatClampNeg (wt_ga r892.2 275 (Int32.toNatClampNeg x1)))) (show 255 ≤ 255 + (Int32.toNatClampNeg (wt_ga r892.2 275 (Int32.toNatClampNeg x1))) by omega) (show 255 + (Int32.toNatClampNeg (wt_ga r892.2 275 (Int32.toNatClampNeg x1))) < 263 by omega) (Int32.toNatClampNeg z856.2.1)
                        have tt910 : (wt_ga r817.2 (255 + (Int32.toNatClampNeg (wt_ga r892.2 275 (Int32.toNatClampNeg x1)))) (Int32.toNatClampNeg z856.2.1)).toInt = (wt_ga r545.2 (255 + (Int32.toNatClampNeg (wt_ga r892.2 275 (Int32.toNatClampNeg x1)))) (Int32.toNatClampNeg z856.2.1)).toInt := congrArg Int32.toInt (f819.2 (255 + (Int32.toNatClampNeg (wt_ga r892.2 275 (Int32.toNatClampNeg x1)))) (fun z => z) (Int32.toNatClampNeg z856.2.1))
                        have bb911 := wt_bd (wt_ga r545.2 (255 + (Int32.toNatClampNeg (wt_ga r892.2 275 (Int32.toNatClampNeg x1)))) (Int32.toNatClampNeg z856.2.1))
                        have g912 : 0 ≤ (wt_ga r545.2 (255 + (Int32.toNatClampNeg (wt_ga r892.2 275 (Int32.toNatClampNeg x1)))) (Int32.toNatClampNeg z856.2.1)).toInt ∧ (wt_ga r545.2 (255 + (Int32.toNatClampNeg (wt_ga r892.2 275 (Int32.toNatClampNeg x1)))) (Int32.toNatClampNeg z856.2.1)).toInt ≤ 59 := wt_R_ga ri548 10 rfl (255 + (Int32.toNatClampNeg (wt_ga r892.2 275 (Int32.toNatClampNeg x1)))) (show 255 ≤ 255 + (Int32.toNatClampNeg (wt_ga r892.2 275 (Int32.toNatClampNeg x1))) by omega) (show 255 + (Int32.toNatClampNeg (wt_ga r892.2 275 (Int32.toNatClampNeg x1))) < 263 by omega) (Int32.toNatClampNeg z856.2.1)
                        have tt913 : (wt_ga r545.2 (255 + (Int32.toNatClampNeg (wt_ga r892.2 275 (Int32.toNatClampNeg x1)))) (Int32.toNatClampNeg z856.2.1)).toInt = (wt_ga σ3 (255 + (Int32.toNatClampNeg (wt_ga r892.2 275 (Int32.toNatClampNeg x1)))) (Int32.toNatClampNeg z856.2.1)).toInt := congrArg Int32.toInt (f547.2 (255 + (Int32.toNatClampNeg (wt_ga r892.2 275 (Int32.toNatClampNeg x1)))) (fun z => z) (Int32.toNatClampNeg z856.2.1))
                        have bb914 := wt_bd (wt_ga σ3 (255 + (Int32.toNatClampNeg (wt_ga r892.2 275 (Int32.toNatClampNeg x1)))) (Int32.toNatClampNeg z856.2.1))
                        have g915 : 0 ≤ (wt_ga σ3 (255 + (Int32.toNatClampNeg (wt_ga r892.2 275 (Int32.toNatClampNeg x1)))) (Int32.toNatClampNeg z856.2.1)).toInt ∧ (wt_ga σ3 (255 + (Int32.toNatClampNeg (wt_ga r892.2 275 (Int32.toNatClampNeg x1)))) (Int32.toNatClampNeg z856.2.1)).toInt ≤ 59 := wt_R_ga rσ3 10 rfl (255 + (Int32.toNatClampNeg (wt_ga r892.2 275 (Int32.toNatClampNeg x1)))) (show 255 ≤ 255 + (Int32.toNatClampNeg (wt_ga r892.2 275 (Int32.toNatClampNeg x1))) by omega) (show 255 + (Int32.toNatClampNeg (wt_ga r892.2 275 (Int32.toNatClampNeg x1))) < 263 by omega) (Int32.toNatClampNeg z856.2.1)
                        have tt916 : (wt_ga σ3 (255 + (Int32.toNatClampNeg (wt_ga r892.2 275 (Int32.toNatClampNeg x1)))) (Int32.toNatClampNeg z856.2.1)).toInt = (wt_ga σ (255 + (Int32.toNatClampNeg (wt_ga r892.2 275 (Int32.toNatClampNeg x1)))) (Int32.toNatClampNeg z856.2.1)).toInt := congrArg Int32.toInt (fσ3.2 (255 + (Int32.toNatClampNeg (wt_ga r892.2 275 (Int32.toNatClampNeg x1)))) (fun z => z) (Int32.toNatClampNeg z856.2.1))
                        have bb917 := wt_bd (wt_ga σ (255 + (Int32.toNatClampNeg (wt_ga r892.2 275 (Int32.toNatClampNeg x1)))) (Int32.toNatClampNeg z856.2.1))
                        have g918 : 0 ≤ (wt_ga σ (255 + (Int32.toNatClampNeg (wt_ga r892.2 275 (Int32.toNatClampNeg x1)))) (Int32.toNatClampNeg z856.2.1)).toInt ∧ (wt_ga σ (255 + (Int32.toNatClampNeg (wt_ga r892.2 275 (Int32.toNatClampNeg x1)))) (Int32.toNatClampNeg z856.2.1)).toInt ≤ 59 := wt_R_ga r0 10 rfl (255 + (Int32.toNatClampNeg (wt_ga r892.2 275 (Int32.toNatClampNeg x1)))) (show 255 ≤ 255 + (Int32.toNatClampNeg (wt_ga r892.2 275 (Int32.toNatClampNeg x1))) by omega) (show 255 + (Int32.toNatClampNeg (wt_ga r892.2 275 (Int32.toNatClampNeg x1))) < 263 by omega) (Int32.toNatClampNeg z856.2.1)
                        refine wt_T_if (fun h919 => ?_) (fun h919 => ?_)
                        · skip
                          have c920 := wt_ceq h919
                          unfold wp_md_page_B196
                          have bb921 := wt_bd z856.1
                          obtain ⟨j922, j922a, j922b⟩ := wt_addI z856.1 (0 : Int32)
                          obtain ⟨j923, j923a, j923b⟩ := wt_addI z856.2.1 (1 : Int32)
                          refine hKK855 _ ⟨(wt_fr.tr (wt_fr.tr wt_fr.rf l858 (fun i k h => h.elim) (fun i h => by (try dsimp only at h); rcases h with h | h; exact Or.inl (by omega); exact Or.inr ((by omega)))) f894 (fun i k h => h.elim) (fun i h => by (try dsimp only at h); rcases h with h | h; exact Or.inl (by omega); exact Or.inr ((by omega)))), (show 0 ≤ ((z856.2.1 + (1 : Int32))).toInt by omega), ri895⟩ ?_
                          show (12 - (z856.2.1 + (1 : Int32)).toInt).toNat < (12 - z856.2.1.toInt).toNat
                          omega
                        · skip
                          have c924 := wt_nceq h919
                          unfold wp_md_page_B196
                          have bb925 := wt_bd z856.1
                          obtain ⟨j926, j926a, j926b⟩ := wt_addI z856.1 (1 : Int32)
                          obtain ⟨j927, j927a, j927b⟩ := wt_addI z856.2.1 (1 : Int32)
                          refine hKK855 _ ⟨(wt_fr.tr (wt_fr.tr wt_fr.rf l858 (fun i k h => h.elim) (fun i h => by (try dsimp only at h); rcases h with h | h; exact Or.inl (by omega); exact Or.inr ((by omega)))) f894 (fun i k h => h.elim) (fun i h => by (try dsimp only at h); rcases h with h | h; exact Or.inl (by omega); exact Or.inr ((by omega)))), (show 0 ≤ ((z856.2.1 + (1 : Int32))).toInt by omega), ri895⟩ ?_
                          show (12 - (z856.2.1 + (1 : Int32)).toInt).toNat < (12 - z856.2.1.toInt).toNat
                          omega
                      · skip
                        have c928 := wt_nceq h890
                        refine wt_T_some ?_
                        exact ⟨(wt_fr.tr (wt_fr.tr (wt_fr.tr (wt_fr.tr wt_fr.rf fσ3 (fun i k h => by (try dsimp only at h); exact (by omega)) (fun i h => h.elim)) f547 (fun i k h => by (try dsimp only at h); exact (by omega)) (fun i h => h.elim)) f819 (fun i k h => by (try dsimp only at h); exact (by omega)) (fun i h => h.elim)) l858 (fun i k h => h.elim) (fun i h => by (try dsimp only at h); rcases h with h | h; exact Or.inl (by omega); exact Or.inr ((by omega)))), l860⟩
                  · skip
                    exact ⟨wt_fr.rf, (show 0 ≤ ((0 : Int32)).toInt by omega), ri820⟩
                  · skip
                    show (12 - (0 : Int32).toInt).toNat < n
                    omega
                · skip
                  have c929 := wt_ncle h853
                  refine wt_T_if (fun h930 => ?_) (fun h930 => ?_)
                  · skip
                    have c931 := wt_ceq h930
                    refine wt_T_gd (wt_ix (by omega) (by omega)) ?_
                    refine wt_T_gd (wt_ix (by omega) (by omega)) ?_
                    have bb932 := wt_tn z837.2.1
                    have bb933 := wt_bd (wt_ga r817.2 (278 + (Int32.toNatClampNeg x1)) (Int32.toNatClampNeg z837.2.1))
                    have g934 : 0 ≤ (wt_ga r817.2 (278 + (Int32.toNatClampNeg x1)) (Int32.toNatClampNeg z837.2.1)).toInt ∧ (wt_ga r817.2 (278 + (Int32.toNatClampNeg x1)) (Int32.toNatClampNeg z837.2.1)).toInt ≤ 337 := wt_R_ga ri820 14 rfl (278 + (Int32.toNatClampNeg x1)) (show 278 ≤ 278 + (Int32.toNatClampNeg x1) by omega) (show 278 + (Int32.toNatClampNeg x1) < 282 by omega) (Int32.toNatClampNeg z837.2.1)
                    have tt935 : (wt_ga r817.2 (278 + (Int32.toNatClampNeg x1)) (Int32.toNatClampNeg z837.2.1)).toInt = (wt_ga r545.2 (278 + (Int32.toNatClampNeg x1)) (Int32.toNatClampNeg z837.2.1)).toInt := congrArg Int32.toInt (f819.2 (278 + (Int32.toNatClampNeg x1)) (fun z => z) (Int32.toNatClampNeg z837.2.1))
                    have bb936 := wt_bd (wt_ga r545.2 (278 + (Int32.toNatClampNeg x1)) (Int32.toNatClampNeg z837.2.1))
                    have g937 : 0 ≤ (wt_ga r545.2 (278 + (Int32.toNatClampNeg x1)) (Int32.toNatClampNeg z837.2.1)).toInt ∧ (wt_ga r545.2 (278 + (Int32.toNatClampNeg x1)) (Int32.toNatClampNeg z837.2.1)).toInt ≤ 337 := wt_R_ga ri548 14 rfl (278 + (Int32.toNatClampNeg x1)) (show 278 ≤ 278 + (Int32.toNatClampNeg x1) by omega) (show 278 + (Int32.toNatClampNeg x1) < 282 by omega) (Int32.toNatClampNeg z837.2.1)
                    have tt938 : (wt_ga r545.2 (278 + (Int32.toNatClampNeg x1)) (Int32.toNatClampNeg z837.2.1)).toInt = (wt_ga σ3 (278 + (Int32.toNatClampNeg x1)) (Int32.toNatClampNeg z837.2.1)).toInt := congrArg Int32.toInt (f547.2 (278 + (Int32.toNatClampNeg x1)) (fun z => z) (Int32.toNatClampNeg z837.2.1))
                    have bb939 := wt_bd (wt_ga σ3 (278 + (Int32.toNatClampNeg x1)) (Int32.toNatClampNeg z837.2.1))
                    have g940 : 0 ≤ (wt_ga σ3 (278 + (Int32.toNatClampNeg x1)) (Int32.toNatClampNeg z837.2.1)).toInt ∧ (wt_ga σ3 (278 + (Int32.toNatClampNeg x1)) (Int32.toNatClampNeg z837.2.1)).toInt ≤ 337 := wt_R_ga rσ3 14 rfl (278 + (Int32.toNatClampNeg x1)) (show 278 ≤ 278 + (Int32.toNatClampNeg x1) by omega) (show 278 + (Int32.toNatClampNeg x1) < 282 by omega) (Int32.toNatClampNeg z837.2.1)
                    have tt941 : (wt_ga σ3 (278 + (Int32.toNatClampNeg x1)) (Int32.toNatClampNeg z837.2.1)).toInt = (wt_ga σ (278 + (Int32.toNatClampNeg x1)) (Int32.toNatClampNeg z837.2.1)).toInt := congrArg Int32.toInt (fσ3.2 (278 + (Int32.toNatClampNeg x1)) (fun z => z) (Int32.toNatClampNeg z837.2.1))
                    have bb942 := wt_bd (wt_ga σ (278 + (Int32.toNatClampNeg x1)) (Int32.toNatClampNeg z837.2.1))
                    have g943 : 0 ≤ (wt_ga σ (278 + (Int32.toNatClampNeg x1)) (Int32.toNatClampNeg z837.2.1)).toInt ∧ (wt_ga σ (278 + (Int32.toNatClampNeg x1)) (Int32.toNatClampNeg z837.2.1)).toInt ≤ 337 := wt_R_ga r0 14 rfl (278 + (Int32.toNatClampNeg x1)) (show 278 ≤ 278 + (Int32.toNatClampNeg x1) by omega) (show 278 + (Int32.toNatClampNeg x1) < 282 by omega) (Int32.toNatClampNeg z837.2.1)
                    refine wt_T_gd (wt_ix (by omega) (by omega)) ?_
                    have bb944 := wt_bd (wt_gf r817.2 108 25)
                    have tt945 : (wt_gf r817.2 108 25).toInt = (wt_gf r545.2 108 25).toInt := congrArg Int32.toInt (f819.1 108 25 (by (try dsimp only); omega))
                    have bb946 := wt_bd (wt_gf r545.2 108 25)
                    have tt947 : (wt_gf r545.2 108 25).toInt = (wt_gf σ3 108 25).toInt := congrArg Int32.toInt (f547.1 108 25 (by (try dsimp only); omega))
                    have bb948 := wt_bd (wt_gf σ3 108 25)
                    have tt949 : (wt_gf σ3 108 25).toInt = (wt_gf σ 108 25).toInt := congrArg Int32.toInt (fσ3.1 108 25 (by (try dsimp only); omega))
                    have bb950 := wt_bd (wt_gf σ 108 25)
                    have bb951 := wt_tn (wt_ga r817.2 (278 + (Int32.toNatClampNeg x1)) (Int32.toNatClampNeg z837.2.1))
                    have bb952 := wt_bd (wt_ga r817.2 121 (Int32.toNatClampNeg (wt_ga r817.2 (278 + (Int32.toNatClampNeg x1)) (Int32.toNatClampNeg z837.2.1))))
                    have tt953 : (wt_ga r817.2 121 (Int32.toNatClampNeg (wt_ga r817.2 (278 + (Int32.toNatClampNeg x1)) (Int32.toNatClampNeg z837.2.1)))).toInt = (wt_ga r545.2 121 (Int32.toNatClampNeg (wt_ga r817.2 (278 + (Int32.toNatClampNeg x1)) (Int32.toNatClampNeg z837.2.1)))).toInt := congrArg Int32.toInt (f819.2 121 (fun z => z) (Int32.toNatClampNeg (wt_ga r817.2 (278 + (Int32.toNatClampNeg x1)) (Int32.toNatClampNeg z837.2.1))))
                    have bb954 := wt_bd (wt_ga r545.2 121 (Int32.toNatClampNeg (wt_ga r817.2 (278 + (Int32.toNatClampNeg x1)) (Int32.toNatClampNeg z837.2.1))))
                    have tt955 : (wt_ga r545.2 121 (Int32.toNatClampNeg (wt_ga r817.2 (278 + (Int32.toNatClampNeg x1)) (Int32.toNatClampNeg z837.2.1)))).toInt = (wt_ga σ3 121 (Int32.toNatClampNeg (wt_ga r817.2 (278 + (Int32.toNatClampNeg x1)) (Int32.toNatClampNeg z837.2.1)))).toInt := congrArg Int32.toInt (f547.2 121 (fun z => z) (Int32.toNatClampNeg (wt_ga r817.2 (278 + (Int32.toNatClampNeg x1)) (Int32.toNatClampNeg z837.2.1))))
                    have bb956 := wt_bd (wt_ga σ3 121 (Int32.toNatClampNeg (wt_ga r817.2 (278 + (Int32.toNatClampNeg x1)) (Int32.toNatClampNeg z837.2.1))))
                    have tt957 : (wt_ga σ3 121 (Int32.toNatClampNeg (wt_ga r817.2 (278 + (Int32.toNatClampNeg x1)) (Int32.toNatClampNeg z837.2.1)))).toInt = (wt_ga σ 121 (Int32.toNatClampNeg (wt_ga r817.2 (278 + (Int32.toNatClampNeg x1)) (Int32.toNatClampNeg z837.2.1)))).toInt := congrArg Int32.toInt (fσ3.2 121 (fun z => z) (Int32.toNatClampNeg (wt_ga r817.2 (278 + (Int32.toNatClampNeg x1)) (Int32.toNatClampNeg z837.2.1))))
                    have bb958 := wt_bd (wt_ga σ 121 (Int32.toNatClampNeg (wt_ga r817.2 (278 + (Int32.toNatClampNeg x1)) (Int32.toNatClampNeg z837.2.1))))
                    refine wt_T_if (fun h959 => ?_) (fun h959 => ?_)
                    · skip
                      have c960 := wt_cle h959
                      unfold wp_md_page_B134
                      have bb961 := wt_bd z837.1
                      obtain ⟨j962, j962a, j962b⟩ := wt_addI z837.1 (0 : Int32)
                      refine hKK836 _ ⟨rfl, (wt_nn (B := wt_ga z837.2.2 276 (Int32.toNatClampNeg x1)) (by omega) (by first | (rw [l839]; omega) | (rw [l839]; done) | omega))⟩ ?_
                      show ((wt_ga r817.2 276 (Int32.toNatClampNeg x1)).toInt - (z837.2.1 + (1 : Int32)).toInt + 0).toNat < ((wt_ga z837.2.2 276 (Int32.toNatClampNeg x1)).toInt - z837.2.1.toInt + 0).toNat
                      exact wt_mu (by first | (rw [l839]; omega) | (rw [l839]; done) | omega) (by first | (rw [l839]; omega) | (rw [l839]; done) | omega)
                    · skip
                      have c963 := wt_ncle h959
                      unfold wp_md_page_B134
                      have bb964 := wt_bd z837.1
                      obtain ⟨j965, j965a, j965b⟩ := wt_addI z837.1 (1 : Int32)
                      refine hKK836 _ ⟨rfl, (wt_nn (B := wt_ga z837.2.2 276 (Int32.toNatClampNeg x1)) (by omega) (by first | (rw [l839]; omega) | (rw [l839]; done) | omega))⟩ ?_
                      show ((wt_ga r817.2 276 (Int32.toNatClampNeg x1)).toInt - (z837.2.1 + (1 : Int32)).toInt + 0).toNat < ((wt_ga z837.2.2 276 (Int32.toNatClampNeg x1)).toInt - z837.2.1.toInt + 0).toNat
                      exact wt_mu (by first | (rw [l839]; omega) | (rw [l839]; done) | omega) (by first | (rw [l839]; omega) | (rw [l839]; done) | omega)
                  · skip
                    have c966 := wt_nceq h930
                    unfold wp_md_page_B142
                    have bb973 := wt_bd z837.1
                    refine wt_T_it (fun s : Int32 × Int32 × wt_St => wt_fr (fun i k => False) (fun i => i = 290 ∨ i = 289) r817.2 s.2.2 ∧ 0 ≤ (s.2.1).toInt ∧ wt_RI s.2.2) (fun s : Int32 × Int32 × wt_St => (12 - s.2.1.toInt).toNat) (fun KK967 z968 I969 hKK967 => ?_) _ _ ?_ ?_
                    · skip
                      obtain ⟨l970, l971, l972⟩ := I969
                      unfold wp_md_page_B145
                      have bb974 := wt_bd z968.2.1
                      refine wt_T_gd (wt_ix (by omega) (by omega)) ?_
                      have bb975 := wt_bd (wt_ga z968.2.2 275 (Int32.toNatClampNeg x1))
                      have g976 : -1 ≤ (wt_ga z968.2.2 275 (Int32.toNatClampNeg x1)).toInt ∧ (wt_ga z968.2.2 275 (Int32.toNatClampNeg x1)).toInt ≤ 7 := wt_R_ga l972 12 rfl 275 (by decide) (by decide) (Int32.toNatClampNeg x1)
                      have tt977 : (wt_ga z968.2.2 275 (Int32.toNatClampNeg x1)).toInt = (wt_ga r817.2 275 (Int32.toNatClampNeg x1)).toInt := congrArg Int32.toInt (l970.2 275 (by (try dsimp only); omega) (Int32.toNatClampNeg x1))
                      have bb978 := wt_bd (wt_ga r817.2 275 (Int32.toNatClampNeg x1))
                      have g979 : -1 ≤ (wt_ga r817.2 275 (Int32.toNatClampNeg x1)).toInt ∧ (wt_ga r817.2 275 (Int32.toNatClampNeg x1)).toInt ≤ 7 := wt_R_ga ri820 12 rfl 275 (by decide) (by decide) (Int32.toNatClampNeg x1)
                      have tt980 : (wt_ga r817.2 275 (Int32.toNatClampNeg x1)).toInt = (wt_ga r545.2 275 (Int32.toNatClampNeg x1)).toInt := congrArg Int32.toInt (f819.2 275 (fun z => z) (Int32.toNatClampNeg x1))
                      have bb981 := wt_bd (wt_ga r545.2 275 (Int32.toNatClampNeg x1))
                      have g982 : -1 ≤ (wt_ga r545.2 275 (Int32.toNatClampNeg x1)).toInt ∧ (wt_ga r545.2 275 (Int32.toNatClampNeg x1)).toInt ≤ 7 := wt_R_ga ri548 12 rfl 275 (by decide) (by decide) (Int32.toNatClampNeg x1)
                      have tt983 : (wt_ga r545.2 275 (Int32.toNatClampNeg x1)).toInt = (wt_ga σ3 275 (Int32.toNatClampNeg x1)).toInt := congrArg Int32.toInt (f547.2 275 (fun z => z) (Int32.toNatClampNeg x1))
                      refine wt_T_gd (wt_ix (by omega) (by omega)) ?_
                      have bb984 := wt_tn (wt_ga z968.2.2 275 (Int32.toNatClampNeg x1))
                      have bb985 := wt_bd (wt_ga z968.2.2 253 (Int32.toNatClampNeg (wt_ga z968.2.2 275 (Int32.toNatClampNeg x1))))
                      have g986 : 0 ≤ (wt_ga z968.2.2 253 (Int32.toNatClampNeg (wt_ga z968.2.2 275 (Int32.toNatClampNeg x1)))).toInt ∧ (wt_ga z968.2.2 253 (Int32.toNatClampNeg (wt_ga z968.2.2 275 (Int32.toNatClampNeg x1)))).toInt ≤ 12 := wt_R_ga l972 9 rfl 253 (by decide) (by decide) (Int32.toNatClampNeg (wt_ga z968.2.2 275 (Int32.toNatClampNeg x1)))
                      have tt987 : (wt_ga z968.2.2 253 (Int32.toNatClampNeg (wt_ga z968.2.2 275 (Int32.toNatClampNeg x1)))).toInt = (wt_ga r817.2 253 (Int32.toNatClampNeg (wt_ga z968.2.2 275 (Int32.toNatClampNeg x1)))).toInt := congrArg Int32.toInt (l970.2 253 (by (try dsimp only); omega) (Int32.toNatClampNeg (wt_ga z968.2.2 275 (Int32.toNatClampNeg x1))))
                      have bb988 := wt_bd (wt_ga r817.2 253 (Int32.toNatClampNeg (wt_ga z968.2.2 275 (Int32.toNatClampNeg x1))))
                      have g989 : 0 ≤ (wt_ga r817.2 253 (Int32.toNatClampNeg (wt_ga z968.2.2 275 (Int32.toNatClampNeg x1)))).toInt ∧ (wt_ga r817.2 253 (Int32.toNatClampNeg (wt_ga z968.2.2 275 (Int32.toNatClampNeg x1)))).toInt ≤ 12 := wt_R_ga ri820 9 rfl 253 (by decide) (by decide) (Int32.toNatClampNeg (wt_ga z968.2.2 275 (Int32.toNatClampNeg x1)))
                      have tt990 : (wt_ga r817.2 253 (Int32.toNatClampNeg (wt_ga z968.2.2 275 (Int32.toNatClampNeg x1)))).toInt = (wt_ga r545.2 253 (Int32.toNatClampNeg (wt_ga z968.2.2 275 (Int32.toNatClampNeg x1)))).toInt := congrArg Int32.toInt (f819.2 253 (fun z => z) (Int32.toNatClampNeg (wt_ga z968.2.2 275 (Int32.toNatClampNeg x1))))
                      have bb991 := wt_bd (wt_ga r545.2 253 (Int32.toNatClampNeg (wt_ga z968.2.2 275 (Int32.toNatClampNeg x1))))
                      have g992 : 0 ≤ (wt_ga r545.2 253 (Int32.toNatClampNeg (wt_ga z968.2.2 275 (Int32.toNatClampNeg x1)))).toInt ∧ (wt_ga r545.2 253 (Int32.toNatClampNeg (wt_ga z968.2.2 275 (Int32.toNatClampNeg x1)))).toInt ≤ 12 := wt_R_ga ri548 9 rfl 253 (by decide) (by decide) (Int32.toNatClampNeg (wt_ga z968.2.2 275 (Int32.toNatClampNeg x1)))
                      have tt993 : (wt_ga r545.2 253 (Int32.toNatClampNeg (wt_ga z968.2.2 275 (Int32.toNatClampNeg x1)))).toInt = (wt_ga σ3 253 (Int32.toNatClampNeg (wt_ga z968.2.2 275 (Int32.toNatClampNeg x1)))).toInt := congrArg Int32.toInt (f547.2 253 (fun z => z) (Int32.toNatClampNeg (wt_ga z968.2.2 275 (Int32.toNatClampNeg x1))))
                      have bb994 := wt_bd (wt_ga σ3 253 (Int32.toNatClampNeg (wt_ga z968.2.2 275 (Int32.toNatClampNeg x1))))
                      have g995 : 0 ≤ (wt_ga σ3 253 (Int32.toNatClampNeg (wt_ga z968.2.2 275 (Int32.toNatClampNeg x1)))).toInt ∧ (wt_ga σ3 253 (Int32.toNatClampNeg (wt_ga z968.2.2 275 (Int32.toNatClampNeg x1)))).toInt ≤ 12 := wt_R_ga rσ3 9 rfl 253 (by decide) (by decide) (Int32.toNatClampNeg (wt_ga z968.2.2 275 (Int32.toNatClampNeg x1)))
                      have tt996 : (wt_ga σ3 253 (Int32.toNatClampNeg (wt_ga z968.2.2 275 (Int32.toNatClampNeg x1)))).toInt = (wt_ga σ 253 (Int32.toNatClampNeg (wt_ga z968.2.2 275 (Int32.toNatClampNeg x1)))).toInt := congrArg Int32.toInt (fσ3.2 253 (fun z => z) (Int32.toNatClampNeg (wt_ga z968.2.2 275 (Int32.toNatClampNeg x1))))
                      have bb997 := wt_bd (wt_ga σ 253 (Int32.toNatClampNeg (wt_ga z968.2.2 275 (Int32.toNatClampNeg x1))))
                      have g998 : 0 ≤ (wt_ga σ 253 (Int32.toNatClampNeg (wt_ga z968.2.2 275 (Int32.toNatClampNeg x1)))).toInt ∧ (wt_ga σ 253 (Int32.toNatClampNeg (wt_ga z968.2.2 275 (Int32.toNatClampNeg x1)))).toInt ≤ 12 := wt_R_ga r0 9 rfl 253 (by decide) (by decide) (Int32.toNatClampNeg (wt_ga z968.2.2 275 (Int32.toNatClampNeg x1)))
                      refine wt_T_if (fun h999 => ?_) (fun h999 => ?_)
                      · skip
                        have c1000 := wt_cle h999
                        refine wt_T_some ?_
                        exact ⟨(wt_fr.tr (wt_fr.tr (wt_fr.tr (wt_fr.tr wt_fr.rf fσ3 (fun i k h => by (try dsimp only at h); exact (by omega)) (fun i h => h.elim)) f547 (fun i k h => by (try dsimp only at h); exact (by omega)) (fun i h => h.elim)) f819 (fun i k h => by (try dsimp only at h); exact (by omega)) (fun i h => h.elim)) l970 (fun i k h => h.elim) (fun i h => by (try dsimp only at h); rcases h with h | h; exact Or.inl (by omega); exact Or.inr ((by omega)))), l972⟩
                      · skip
                        have c1001 := wt_ncle h999
                        refine wt_T_if (fun h1002 => ?_) (fun h1002 => ?_)
                        · skip
                          have c1003 := wt_ceq h1002
                          refine wt_T_bi (wq_md_readOf n hn x1 z968.2.1 z968.2.2 l972 (by omega) (by omega) (by omega) (by omega) (by omega) (wt_PG_fr (F := fun i k => (i = 108 ∧ k = 0)) (A := fun i => i = 290 ∨ i = 289) r0 p0 (wt_fr.tr (wt_fr.tr (wt_fr.tr (wt_fr.tr wt_fr.rf fσ3 (fun i k h => by (try dsimp only at h); exact (by omega)) (fun i h => h.elim)) f547 (fun i k h => by (try dsimp only at h); exact (by omega)) (fun i h => h.elim)) f819 (fun i k h => by (try dsimp only at h); exact (by omega)) (fun i h => h.elim)) l970 (fun i k h => h.elim) (fun i h => by (try dsimp only at h); rcases h with h | h; exact Or.inl (by omega); exact Or.inr ((by omega)))) (fun i hi => by (try dsimp only); unfold wt_PA at hi; omega))) (fun r1004 h1005 => ?_)
                          obtain ⟨f1006, ri1007⟩ := h1005
                          have bb1008 := wt_bd r1004.1
                          refine wt_T_gd (wt_ix (by omega) (by omega)) ?_
                          have bb1009 := wt_bd (wt_ga r1004.2 275 (Int32.toNatClampNeg x1))
                          have g1010 : -1 ≤ (wt_ga r1004.2 275 (Int32.toNatClampNeg x1)).toInt ∧ (wt_ga r1004.2 275 (Int32.toNatClampNeg x1)).toInt ≤ 7 := wt_R_ga ri1007 12 rfl 275 (by decide) (by decide) (Int32.toNatClampNeg x1)
                          have tt1011 : (wt_ga r1004.2 275 (Int32.toNatClampNeg x1)).toInt = (wt_ga z968.2.2 275 (Int32.toNatClampNeg x1)).toInt := congrArg Int32.toInt (f1006.2 275 (by (try dsimp only); omega) (Int32.toNatClampNeg x1))
                          refine wt_T_gd (wt_ix (by omega) (by omega)) ?_
                          refine wt_T_gd (wt_ix (by omega) (by omega)) ?_
                          have bb1012 := wt_tn (wt_ga r1004.2 275 (Int32.toNatClampNeg x1))
                          have bb1013 := wt_tn z968.2.1
                          have bb1014 := wt_bd (wt_ga r1004.2 (255 + (Int32.toNatClampNeg (wt_ga r1004.2 275 (Int32.toNatClampNeg x1)))) (Int32.toNatClampNeg z968.2.1))
                          have g1015 : 0 ≤ (wt_ga r1004.2 (255 + (Int32.toNatClampNeg (wt_ga r1004.2 275 (Int32.toNatClampNeg x1)))) (Int32.toNatClampNeg z968.2.1)).toInt ∧ (wt_ga r1004.2 (255 + (Int32.toNatClampNeg (wt_ga r1004.2 275 (Int32.toNatClampNeg x1)))) (Int32.toNatClampNeg z968.2.1)).toInt ≤ 59 := wt_R_ga ri1007 10 rfl (255 + (Int32.toNatClampNeg (wt_ga r1004.2 275 (Int32.toNatClampNeg x1)))) (show 255 ≤ 255 + (Int32.toNatClampNeg (wt_ga r1004.2 275 (Int32.toNatClampNeg x1))) by omega) (show 255 + (Int32.toNatClampNeg (wt_ga r1004.2 275 (Int32.toNatClampNeg x1))) < 263 by omega) (Int32.toNatClampNeg z968.2.1)
                          have tt1016 : (wt_ga r1004.2 (255 + (Int32.toNatClampNeg (wt_ga r1004.2 275 (Int32.toNatClampNeg x1)))) (Int32.toNatClampNeg z968.2.1)).toInt = (wt_ga z968.2.2 (255 + (Int32.toNatClampNeg (wt_ga r1004.2 275 (Int32.toNatClampNeg x1)))) (Int32.toNatClampNeg z968.2.1)).toInt := congrArg Int32.toInt (f1006.2 (255 + (Int32.toNatClampNeg (wt_ga r1004.2 275 (Int32.toNatClampNeg x1)))) (by (try dsimp only); omega) (Int32.toNatClampNeg z968.2.1))
                          have bb1017 := wt_bd (wt_ga z968.2.2 (255 + (Int32.toNatClampNeg (wt_ga r1004.2 275 (Int32.toNatClampNeg x1)))) (Int32.toNatClampNeg z968.2.1))
                          have g1018 : 0 ≤ (wt_ga z968.2.2 (255 + (Int32.toNatClampNeg (wt_ga r1004.2 275 (Int32.toNatClampNeg x1)))) (Int32.toNatClampNeg z968.2.1)).toInt ∧ (wt_ga z968.2.2 (255 + (Int32.toNatClampNeg (wt_ga r1004.2 275 (Int32.toNatClampNeg x1)))) (Int32.toNatClampNeg z968.2.1)).toInt ≤ 59 := wt_R_ga l972 10 rfl (255 + (Int32.toNatClampNeg (wt_ga r1004.2 275 (Int32.toNatClampNeg x1)))) (show 255 ≤ 255 + (Int32.toNatClampNeg (wt_ga r1004.2 275 (Int32.toNatClampNeg x1))) by omega) (show 255 + (Int32.toNatClampNeg (wt_ga r1004.2 275 (Int32.toNatClampNeg x1))) < 263 by omega) (Int32.toNatClampNeg z968.2.1)
                          have tt1019 : (wt_ga z968.2.2 (255 + (Int32.toNatClampNeg (wt_ga r1004.2 275 (Int32.toNatClampNeg x1)))) (Int32.toNatClampNeg z968.2.1)).toInt = (wt_ga r817.2 (255 + (Int32.toNatClampNeg (wt_ga r1004.2 275 (Int32.toNatClampNeg x1)))) (Int32.toNatClampNeg z968.2.1)).toInt := congrArg Int32.toInt (l970.2 (255 + (Int32.toNatClampNeg (wt_ga r1004.2 275 (Int32.toNatClampNeg x1)))) (by (try dsimp only); omega) (Int32.toNatClampNeg z968.2.1))
                          have bb1020 := wt_bd (wt_ga r817.2 (255 + (Int32.toNatClampNeg (wt_ga r1004.2 275 (Int32.toNatClampNeg x1)))) (Int32.toNatClampNeg z968.2.1))
                          have g1021 : 0 ≤ (wt_ga r817.2 (255 + (Int32.toNatClampNeg (wt_ga r1004.2 275 (Int32.toNatClampNeg x1)))) (Int32.toNatClampNeg z968.2.1)).toInt ∧ (wt_ga r817.2 (255 + (Int32.toNatClampNeg (wt_ga r1004.2 275 (Int32.toNatClampNeg x1)))) (Int32.toNatClampNeg z968.2.1)).toInt ≤ 59 := wt_R_ga ri820 10 rfl (255 + (Int32.toNatClampNeg (wt_ga r1004.2 275 (Int32.toNatClampNeg x1)))) (show 255 ≤ 255 + (Int32.toNatClampNeg (wt_ga r1004.2 275 (Int32.toNatClampNeg x1))) by omega) (show 255 + (Int32.toNatClampNeg (wt_ga r1004.2 275 (Int32.toNatClampNeg x1))) < 263 by omega) (Int32.toNatClampNeg z968.2.1)
                          have tt1022 : (wt_ga r817.2 (255 + (Int32.toNatClampNeg (wt_ga r1004.2 275 (Int32.toNatClampNeg x1)))) (Int32.toNatClampNeg z968.2.1)).toInt = (wt_ga r545.2 (255 + (Int32.toNatClampNeg (wt_ga r1004.2 275 (Int32.toNatClampNeg x1)))) (Int32.toNatClampNeg z968.2.1)).toInt := congrArg Int32.toInt (f819.2 (255 + (Int32.toNatClampNeg (wt_ga r1004.2 275 (Int32.toNatClampNeg x1)))) (fun z => z) (Int32.toNatClampNeg z968.2.1))
                          have bb1023 := wt_bd (wt_ga r545.2 (255 + (Int32.toNatClampNeg (wt_ga r1004.2 275 (Int32.toNatClampNeg x1)))) (Int32.toNatClampNeg z968.2.1))
                          have g1024 : 0 ≤ (wt_ga r545.2 (255 + (Int32.toNatClampNeg (wt_ga r1004.2 275 (Int32.toNatClampNeg x1)))) (Int32.toNatClampNeg z968.2.1)).toInt ∧ (wt_ga r545.2 (255 + (Int32.toNatClampNeg (wt_ga r1004.2 275 (Int32.toNatClampNeg x1)))) (Int32.toNatClampNeg z968.2.1)).toInt ≤ 59 := wt_R_ga ri548 10 rfl (255 + (Int32.toNatClampNeg (wt_ga r1004.2 275 (Int32.toNatClampNeg x1)))) (show 255 ≤ 255 + (Int32.toNatClampNeg (wt_ga r1004.2 275 (Int32.toNatClampNeg x1))) by omega) (show 255 + (Int32.toNatClampNeg (wt_ga r1004.2 275 (Int32.toNatClampNeg x1))) < 263 by omega) (Int32.toNatClampNeg z968.2.1)
                          have tt1025 : (wt_ga r545.2 (255 + (Int32.toNatClampNeg (wt_ga r1004.2 275 (Int32.toNatClampNeg x1)))) (Int32.toNatClampNeg z968.2.1)).toInt = (wt_ga σ3 (255 + (Int32.toNatClampNeg (wt_ga r1004.2 275 (Int32.toNatClampNeg x1)))) (Int32.toNatClampNeg z968.2.1)).toInt := congrArg Int32.toInt (f547.2 (255 + (Int32.toNatClampNeg (wt_ga r1004.2 275 (Int32.toNatClampNeg x1)))) (fun z => z) (Int32.toNatClampNeg z968.2.1))
                          have bb1026 := wt_bd (wt_ga σ3 (255 + (Int32.toNatClampNeg (wt_ga r1004.2 275 (Int32.toNatClampNeg x1)))) (Int32.toNatClampNeg z968.2.1))
                          have g1027 : 0 ≤ (wt_ga σ3 (255 + (Int32.toNatClampNeg (wt_ga r1004.2 275 (Int32.toNatClampNeg x1)))) (Int32.toNatClampNeg z968.2.1)).toInt ∧ (wt_ga σ3 (255 + (Int32.toNatClampNeg (wt_ga r1004.2 275 (Int32.toNatClampNeg x1)))) (Int32.toNatClampNeg z968.2.1)).toInt ≤ 59 := wt_R_ga rσ3 10 rfl (255 + (Int32.toNatClampNeg (wt_ga r1004.2 275 (Int32.toNatClampNeg x1)))) (show 255 ≤ 255 + (Int32.toNatClampNeg (wt_ga r1004.2 275 (Int32.toNatClampNeg x1))) by omega) (show 255 + (Int32.toNatClampNeg (wt_ga r1004.2 275 (Int32.toNatClampNeg x1))) < 263 by omega) (Int32.toNatClampNeg z968.2.1)
                          have tt1028 : (wt_ga σ3 (255 + (Int32.toNatClampNeg (wt_ga r1004.2 275 (Int32.toNatClampNeg x1)))) (Int32.toNatClampNeg z968.2.1)).toInt = (wt_ga σ (255 + (Int32.toNatClampNeg (wt_ga r1004.2 275 (Int32.toNatClampNeg x1)))) (Int32.toNatClampNeg z968.2.1)).toInt := congrArg Int32.toInt (fσ3.2 (255 + (Int32.toNatClampNeg (wt_ga r1004.2 275 (Int32.toNatClampNeg x1)))) (fun z => z) (Int32.toNatClampNeg z968.2.1))
                          have bb1029 := wt_bd (wt_ga σ (255 + (Int32.toNatClampNeg (wt_ga r1004.2 275 (Int32.toNatClampNeg x1)))) (Int32.toNatClampNeg z968.2.1))
                          have g1030 : 0 ≤ (wt_ga σ (255 + (Int32.toNatClampNeg (wt_ga r1004.2 275 (Int32.toNatClampNeg x1)))) (Int32.toNatClampNeg z968.2.1)).toInt ∧ (wt_ga σ (255 + (Int32.toNatClampNeg (wt_ga r1004.2 275 (Int32.toNatClampNeg x1)))) (Int32.toNatClampNeg z968.2.1)).toInt ≤ 59 := wt_R_ga r0 10 rfl (255 + (Int32.toNatClampNeg (wt_ga r1004.2 275 (Int32.toNatClampNeg x1)))) (show 255 ≤ 255 + (Int32.toNatClampNeg (wt_ga r1004.2 275 (Int32.toNatClampNeg x1))) by omega) (show 255 + (Int32.toNatClampNeg (wt_ga r1004.2 275 (Int32.toNatClampNeg x1))) < 263 by omega) (Int32.toNatClampNeg z968.2.1)
                          refine wt_T_if (fun h1031 => ?_) (fun h1031 => ?_)
                          · skip
                            have c1032 := wt_ceq h1031
                            unfold wp_md_page_B196
                            have bb1033 := wt_bd z968.1
                            obtain ⟨j1034, j1034a, j1034b⟩ := wt_addI z968.1 (0 : Int32)
                            obtain ⟨j1035, j1035a, j1035b⟩ := wt_addI z968.2.1 (1 : Int32)
                            refine hKK967 _ ⟨(wt_fr.tr (wt_fr.tr wt_fr.rf l970 (fun i k h => h.elim) (fun i h => by (try dsimp only at h); rcases h with h | h; exact Or.inl (by omega); exact Or.inr ((by omega)))) f1006 (fun i k h => h.elim) (fun i h => by (try dsimp only at h); rcases h with h | h; exact Or.inl (by omega); exact Or.inr ((by omega)))), (show 0 ≤ ((z968.2.1 + (1 : Int32))).toInt by omega), ri1007⟩ ?_
                            show (12 - (z968.2.1 + (1 : Int32)).toInt).toNat < (12 - z968.2.1.toInt).toNat
                            omega
                          · skip
                            have c1036 := wt_nceq h1031
                            unfold wp_md_page_B196
                            have bb1037 := wt_bd z968.1
                            obtain ⟨j1038, j1038a, j1038b⟩ := wt_addI z968.1 (1 : Int32)
                            obtain ⟨j1039, j1039a, j1039b⟩ := wt_addI z968.2.1 (1 : Int32)
                            refine hKK967 _ ⟨(wt_fr.tr (wt_fr.tr wt_fr.rf l970 (fun i k h => h.elim) (fun i h => by (try dsimp only at h); rcases h with h | h; exact Or.inl (by omega); exact Or.inr ((by omega)))) f1006 (fun i k h => h.elim) (fun i h => by (try dsimp only at h); rcases h with h | h; exact Or.inl (by omega); exact Or.inr ((by omega)))), (show 0 ≤ ((z968.2.1 + (1 : Int32))).toInt by omega), ri1007⟩ ?_
                            show (12 - (z968.2.1 + (1 : Int32)).toInt).toNat < (12 - z968.2.1.toInt).toNat
                            omega
                        · skip
                          have c1040 := wt_nceq h1002
                          refine wt_T_some ?_
                          exact ⟨(wt_fr.tr (wt_fr.tr (wt_fr.tr (wt_fr.tr wt_fr.rf fσ3 (fun i k h => by (try dsimp only at h); exact (by omega)) (fun i h => h.elim)) f547 (fun i k h => by (try dsimp only at h); exact (by omega)) (fun i h => h.elim)) f819 (fun i k h => by (try dsimp only at h); exact (by omega)) (fun i h => h.elim)) l970 (fun i k h => h.elim) (fun i h => by (try dsimp only at h); rcases h with h | h; exact Or.inl (by omega); exact Or.inr ((by omega)))), l972⟩
                    · skip
                      exact ⟨wt_fr.rf, (show 0 ≤ ((0 : Int32)).toInt by omega), ri820⟩
                    · skip
                      show (12 - (0 : Int32).toInt).toNat < n
                      omega
              · skip
                have bb1041 := wt_bd (wt_ga r817.2 276 (Int32.toNatClampNeg x1))
                have g1042 : 0 ≤ (wt_ga r817.2 276 (Int32.toNatClampNeg x1)).toInt ∧ (wt_ga r817.2 276 (Int32.toNatClampNeg x1)).toInt ≤ 108 := wt_R_ga ri820 13 rfl 276 (by decide) (by decide) (Int32.toNatClampNeg x1)
                have tt1043 : (wt_ga r817.2 276 (Int32.toNatClampNeg x1)).toInt = (wt_ga r545.2 276 (Int32.toNatClampNeg x1)).toInt := congrArg Int32.toInt (f819.2 276 (fun z => z) (Int32.toNatClampNeg x1))
                have bb1044 := wt_bd (wt_ga r545.2 276 (Int32.toNatClampNeg x1))
                have g1045 : 0 ≤ (wt_ga r545.2 276 (Int32.toNatClampNeg x1)).toInt ∧ (wt_ga r545.2 276 (Int32.toNatClampNeg x1)).toInt ≤ 108 := wt_R_ga ri548 13 rfl 276 (by decide) (by decide) (Int32.toNatClampNeg x1)
                have tt1046 : (wt_ga r545.2 276 (Int32.toNatClampNeg x1)).toInt = (wt_ga σ3 276 (Int32.toNatClampNeg x1)).toInt := congrArg Int32.toInt (f547.2 276 (fun z => z) (Int32.toNatClampNeg x1))
                have bb1047 := wt_bd (wt_ga σ3 276 (Int32.toNatClampNeg x1))
                have g1048 : 0 ≤ (wt_ga σ3 276 (Int32.toNatClampNeg x1)).toInt ∧ (wt_ga σ3 276 (Int32.toNatClampNeg x1)).toInt ≤ 108 := wt_R_ga rσ3 13 rfl 276 (by decide) (by decide) (Int32.toNatClampNeg x1)
                have tt1049 : (wt_ga σ3 276 (Int32.toNatClampNeg x1)).toInt = (wt_ga σ 276 (Int32.toNatClampNeg x1)).toInt := congrArg Int32.toInt (fσ3.2 276 (fun z => z) (Int32.toNatClampNeg x1))
                have bb1050 := wt_bd (wt_ga σ 276 (Int32.toNatClampNeg x1))
                have g1051 : 0 ≤ (wt_ga σ 276 (Int32.toNatClampNeg x1)).toInt ∧ (wt_ga σ 276 (Int32.toNatClampNeg x1)).toInt ≤ 108 := wt_R_ga r0 13 rfl 276 (by decide) (by decide) (Int32.toNatClampNeg x1)
                exact ⟨rfl, (show 0 ≤ ((0 : Int32)).toInt by omega)⟩
              · skip
                have bb1052 := wt_bd (wt_ga r817.2 276 (Int32.toNatClampNeg x1))
                have g1053 : 0 ≤ (wt_ga r817.2 276 (Int32.toNatClampNeg x1)).toInt ∧ (wt_ga r817.2 276 (Int32.toNatClampNeg x1)).toInt ≤ 108 := wt_R_ga ri820 13 rfl 276 (by decide) (by decide) (Int32.toNatClampNeg x1)
                have tt1054 : (wt_ga r817.2 276 (Int32.toNatClampNeg x1)).toInt = (wt_ga r545.2 276 (Int32.toNatClampNeg x1)).toInt := congrArg Int32.toInt (f819.2 276 (fun z => z) (Int32.toNatClampNeg x1))
                have bb1055 := wt_bd (wt_ga r545.2 276 (Int32.toNatClampNeg x1))
                have g1056 : 0 ≤ (wt_ga r545.2 276 (Int32.toNatClampNeg x1)).toInt ∧ (wt_ga r545.2 276 (Int32.toNatClampNeg x1)).toInt ≤ 108 := wt_R_ga ri548 13 rfl 276 (by decide) (by decide) (Int32.toNatClampNeg x1)
                have tt1057 : (wt_ga r545.2 276 (Int32.toNatClampNeg x1)).toInt = (wt_ga σ3 276 (Int32.toNatClampNeg x1)).toInt := congrArg Int32.toInt (f547.2 276 (fun z => z) (Int32.toNatClampNeg x1))
                have bb1058 := wt_bd (wt_ga σ3 276 (Int32.toNatClampNeg x1))
                have g1059 : 0 ≤ (wt_ga σ3 276 (Int32.toNatClampNeg x1)).toInt ∧ (wt_ga σ3 276 (Int32.toNatClampNeg x1)).toInt ≤ 108 := wt_R_ga rσ3 13 rfl 276 (by decide) (by decide) (Int32.toNatClampNeg x1)
                have tt1060 : (wt_ga σ3 276 (Int32.toNatClampNeg x1)).toInt = (wt_ga σ 276 (Int32.toNatClampNeg x1)).toInt := congrArg Int32.toInt (fσ3.2 276 (fun z => z) (Int32.toNatClampNeg x1))
                have bb1061 := wt_bd (wt_ga σ 276 (Int32.toNatClampNeg x1))
                have g1062 : 0 ≤ (wt_ga σ 276 (Int32.toNatClampNeg x1)).toInt ∧ (wt_ga σ 276 (Int32.toNatClampNeg x1)).toInt ≤ 108 := wt_R_ga r0 13 rfl 276 (by decide) (by decide) (Int32.toNatClampNeg x1)
                show ((wt_ga r817.2 276 (Int32.toNatClampNeg x1)).toInt - (0 : Int32).toInt + 0).toNat < n
                omega
          · skip
            have c1063 := wt_ncle h826
            refine wt_T_if (fun h1064 => ?_) (fun h1064 => ?_)
            · skip
              have c1065 := wt_ceq h1064
              refine wt_T_gd (wt_ix (by omega) (by omega)) ?_
              refine wt_T_some ?_
              exact ⟨(wt_fr.tr (wt_fr.tr (wt_fr.tr wt_fr.rf fσ3 (fun i k h => by (try dsimp only at h); exact (by omega)) (fun i h => h.elim)) f547 (fun i k h => by (try dsimp only at h); exact (by omega)) (fun i h => h.elim)) f819 (fun i k h => by (try dsimp only at h); exact (by omega)) (fun i h => h.elim)), ri820⟩
            · skip
              have c1066 := wt_nceq h1064
              refine wt_T_gd (wt_ix (by omega) (by omega)) ?_
              refine wt_T_some ?_
              exact ⟨(wt_fr.tr (wt_fr.tr (wt_fr.tr wt_fr.rf fσ3 (fun i k h => by (try dsimp only at h); exact (by omega)) (fun i h => h.elim)) f547 (fun i k h => by (try dsimp only at h); exact (by omega)) (fun i h => h.elim)) f819 (fun i k h => by (try dsimp only at h); exact (by omega)) (fun i h => h.elim)), ri820⟩
        · skip
          have c1067 := wt_nceq h824
          refine wt_T_some ?_
          exact ⟨(wt_fr.tr (wt_fr.tr (wt_fr.tr wt_fr.rf fσ3 (fun i k h => by (try dsimp only at h); exact (by omega)) (fun i h => h.elim)) f547 (fun i k h => by (try dsimp only at h); exact (by omega)) (fun i h => h.elim)) f819 (fun i k h => by (try dsimp only at h); exact (by omega)) (fun i h => h.elim)), ri820⟩
    · skip
      have c1068 := wt_nceq h553
      refine wt_T_some ?_
      exact ⟨(wt_fr.tr (wt_fr.tr wt_fr.rf fσ3 (fun i k h => by (try dsimp only at h); exact (by omega)) (fun i h => h.elim)) f547 (fun i k h => by (try dsimp only at h); exact (by omega)) (fun i h => h.elim)), ri548⟩
set_option maxRecDepth 100000 in
set_option maxHeartbeats 4000000 in
theorem wq_md_piece (n : Nat) (hn : 4294967297 < n) (x1 : Int32) (x2 : Int32) (x3 : Int32) (σ : wt_St) (r0 : wt_RI σ) : wt_T (wp_md_piece n x1 x2 x3 σ) (fun q => wt_fr (fun i k => (i = 108 ∧ k = 0)) (fun i => False) σ q.2 ∧ wt_RI q.2) := by
  have bb1 := wt_bd x1
  have bb2 := wt_bd x2
  have bb3 := wt_bd x3
  unfold wp_md_piece
  obtain ⟨σ4, eσ4⟩ : ∃ z : wt_St, z = wt_sf σ 108 0 (0 : Int32) := ⟨_, rfl⟩
  rw [← eσ4]
  have fσ4 := wt_fr_sf eσ4
  have vσ4 := wt_ceq (wt_v_sf eσ4)
  have k5 : (0 : Int32).toInt = 0 := by decide
  have rσ4 := wt_RI_fno r0 eσ4 (Or.inr (by decide))
  refine wt_T_bi (wq_md_isLetter n hn x1 σ4 rσ4) (fun r6 h7 => ?_)
  obtain ⟨e8, pp9⟩ := h7
  have bb10 := wt_bd r6.1
  rw [e8]
  refine wt_T_if (fun h11 => ?_) (fun h11 => ?_)
  · skip
    have c12 := wt_ceq h11
    unfold wp_md_piece_B18
    have k13 : (1 : Int32).toInt = 1 := by decide
    have k14 : (2 : Int32).toInt = 2 := by decide
    refine wt_T_bi (wq_md_bad n hn (1 : Int32) (2 : Int32) σ4 rσ4 (by omega)) (fun r15 h16 => ?_)
    obtain ⟨f17, ri18, pp19⟩ := h16
    have bb20 := wt_bd r15.1
    have bb21 := wt_bd (wt_gf r15.2 108 0)
    have bb22 := wt_bd (wt_gf σ4 108 0)
    refine wt_T_if (fun h23 => ?_) (fun h23 => ?_)
    · skip
      have c24 := wt_ceq h23
      refine wt_T_gd (wt_ix (by omega) (by omega)) ?_
      have bb25 := wt_tn x1
      have bb26 := wt_bd (wt_ga r15.2 111 (Int32.toNatClampNeg x1))
      have g27 : 0 ≤ (wt_ga r15.2 111 (Int32.toNatClampNeg x1)).toInt ∧ (wt_ga r15.2 111 (Int32.toNatClampNeg x1)).toInt ≤ 13 := wt_R_ga ri18 1 rfl 111 (by decide) (by decide) (Int32.toNatClampNeg x1)
      have tt28 : (wt_ga r15.2 111 (Int32.toNatClampNeg x1)).toInt = (wt_ga σ4 111 (Int32.toNatClampNeg x1)).toInt := congrArg Int32.toInt (f17.2 111 (fun z => z) (Int32.toNatClampNeg x1))
      have bb29 := wt_bd (wt_ga σ4 111 (Int32.toNatClampNeg x1))
      have g30 : 0 ≤ (wt_ga σ4 111 (Int32.toNatClampNeg x1)).toInt ∧ (wt_ga σ4 111 (Int32.toNatClampNeg x1)).toInt ≤ 13 := wt_R_ga rσ4 1 rfl 111 (by decide) (by decide) (Int32.toNatClampNeg x1)
      have tt31 : (wt_ga σ4 111 (Int32.toNatClampNeg x1)).toInt = (wt_ga σ 111 (Int32.toNatClampNeg x1)).toInt := congrArg Int32.toInt (fσ4.2 111 (fun z => z) (Int32.toNatClampNeg x1))
      have bb32 := wt_bd (wt_ga σ 111 (Int32.toNatClampNeg x1))
      have g33 : 0 ≤ (wt_ga σ 111 (Int32.toNatClampNeg x1)).toInt ∧ (wt_ga σ 111 (Int32.toNatClampNeg x1)).toInt ≤ 13 := wt_R_ga r0 1 rfl 111 (by decide) (by decide) (Int32.toNatClampNeg x1)
      obtain ⟨j34, j34a, j34b⟩ := wt_subI (wt_ga r15.2 111 (Int32.toNatClampNeg x1)) (1 : Int32)
      refine wt_T_bi (wq_md_in n hn x2 (0 : Int32) ((wt_ga r15.2 111 (Int32.toNatClampNeg x1)) - (1 : Int32)) r15.2 ri18) (fun r35 h36 => ?_)
      obtain ⟨e37, pp38⟩ := h36
      have bb39 := wt_bd r35.1
      rw [e37]
      refine wt_T_if (fun h40 => ?_) (fun h40 => ?_)
      · skip
        have c41 := wt_ceq h40
        unfold wp_md_piece_B47
        refine wt_T_bi (wq_md_bad n hn (1 : Int32) (1 : Int32) r15.2 ri18 (by omega)) (fun r42 h43 => ?_)
        obtain ⟨f44, ri45, pp46⟩ := h43
        have bb47 := wt_bd r42.1
        have bb48 := wt_bd (wt_gf r42.2 108 0)
        refine wt_T_if (fun h49 => ?_) (fun h49 => ?_)
        · skip
          have c50 := wt_ceq h49
          refine wt_T_bi (wq_md_in n hn x3 (0 : Int32) (1 : Int32) r42.2 ri45) (fun r51 h52 => ?_)
          obtain ⟨e53, pp54⟩ := h52
          have bb55 := wt_bd r51.1
          rw [e53]
          refine wt_T_if (fun h56 => ?_) (fun h56 => ?_)
          · skip
            have c57 := wt_ceq h56
            unfold wp_md_piece_B69
            refine wt_T_bi (wq_md_bad n hn (1 : Int32) (2 : Int32) r42.2 ri45 (by omega)) (fun r58 h59 => ?_)
            obtain ⟨f60, ri61, pp62⟩ := h59
            have bb63 := wt_bd r58.1
            have bb64 := wt_bd (wt_gf r58.2 108 0)
            refine wt_T_if (fun h65 => ?_) (fun h65 => ?_)
            · skip
              have c66 := wt_ceq h65
              refine wt_T_if (fun h67 => ?_) (fun h67 => ?_)
              · skip
                have c68 := wt_ceq h67
                refine wt_T_bi (wq_md_cell n hn x1 x2 r58.2 ri61 (by omega) (by omega) (by omega) (by omega)) (fun r69 h70 => ?_)
                obtain ⟨e71, pp72⟩ := h70
                have bb73 := wt_bd r69.1
                rw [e71]
                refine wt_T_gd (wt_ix (by omega) (by omega)) ?_
                refine wt_T_some ?_
                exact ⟨(wt_fr.tr (wt_fr.tr (wt_fr.tr (wt_fr.tr wt_fr.rf fσ4 (fun i k h => by (try dsimp only at h); exact (by omega)) (fun i h => h.elim)) f17 (fun i k h => by (try dsimp only at h); exact (by omega)) (fun i h => h.elim)) f44 (fun i k h => by (try dsimp only at h); exact (by omega)) (fun i h => h.elim)) f60 (fun i k h => by (try dsimp only at h); exact (by omega)) (fun i h => h.elim)), ri61⟩
              · skip
                have c74 := wt_nceq h67
                refine wt_T_bi (wq_md_cell n hn x1 x2 r58.2 ri61 (by omega) (by omega) (by omega) (by omega)) (fun r75 h76 => ?_)
                obtain ⟨e77, pp78⟩ := h76
                have bb79 := wt_bd r75.1
                rw [e77]
                refine wt_T_gd (wt_ix (by omega) (by omega)) ?_
                refine wt_T_some ?_
                exact ⟨(wt_fr.tr (wt_fr.tr (wt_fr.tr (wt_fr.tr wt_fr.rf fσ4 (fun i k h => by (try dsimp only at h); exact (by omega)) (fun i h => h.elim)) f17 (fun i k h => by (try dsimp only at h); exact (by omega)) (fun i h => h.elim)) f44 (fun i k h => by (try dsimp only at h); exact (by omega)) (fun i h => h.elim)) f60 (fun i k h => by (try dsimp only at h); exact (by omega)) (fun i h => h.elim)), ri61⟩
            · skip
              have c80 := wt_nceq h65
              refine wt_T_some ?_
              exact ⟨(wt_fr.tr (wt_fr.tr (wt_fr.tr (wt_fr.tr wt_fr.rf fσ4 (fun i k h => by (try dsimp only at h); exact (by omega)) (fun i h => h.elim)) f17 (fun i k h => by (try dsimp only at h); exact (by omega)) (fun i h => h.elim)) f44 (fun i k h => by (try dsimp only at h); exact (by omega)) (fun i h => h.elim)) f60 (fun i k h => by (try dsimp only at h); exact (by omega)) (fun i h => h.elim)), ri61⟩
          · skip
            have c81 := wt_nceq h56
            unfold wp_md_piece_B69
            refine wt_T_bi (wq_md_bad n hn (0 : Int32) (2 : Int32) r42.2 ri45 (by omega)) (fun r82 h83 => ?_)
            obtain ⟨f84, ri85, pp86⟩ := h83
            have bb87 := wt_bd r82.1
            have bb88 := wt_bd (wt_gf r82.2 108 0)
            refine wt_T_if (fun h89 => ?_) (fun h89 => ?_)
            · skip
              have c90 := wt_ceq h89
              refine wt_T_if (fun h91 => ?_) (fun h91 => ?_)
              · skip
                have c92 := wt_ceq h91
                refine wt_T_bi (wq_md_cell n hn x1 x2 r82.2 ri85 (by omega) (by omega) (by omega) (by omega)) (fun r93 h94 => ?_)
                obtain ⟨e95, pp96⟩ := h94
                have bb97 := wt_bd r93.1
                rw [e95]
                refine wt_T_gd (wt_ix (by omega) (by omega)) ?_
                refine wt_T_some ?_
                exact ⟨(wt_fr.tr (wt_fr.tr (wt_fr.tr (wt_fr.tr wt_fr.rf fσ4 (fun i k h => by (try dsimp only at h); exact (by omega)) (fun i h => h.elim)) f17 (fun i k h => by (try dsimp only at h); exact (by omega)) (fun i h => h.elim)) f44 (fun i k h => by (try dsimp only at h); exact (by omega)) (fun i h => h.elim)) f84 (fun i k h => by (try dsimp only at h); exact (by omega)) (fun i h => h.elim)), ri85⟩
              · skip
                have c98 := wt_nceq h91
                refine wt_T_bi (wq_md_cell n hn x1 x2 r82.2 ri85 (by omega) (by omega) (by omega) (by omega)) (fun r99 h100 => ?_)
                obtain ⟨e101, pp102⟩ := h100
                have bb103 := wt_bd r99.1
                rw [e101]
                refine wt_T_gd (wt_ix (by omega) (by omega)) ?_
                refine wt_T_some ?_
                exact ⟨(wt_fr.tr (wt_fr.tr (wt_fr.tr (wt_fr.tr wt_fr.rf fσ4 (fun i k h => by (try dsimp only at h); exact (by omega)) (fun i h => h.elim)) f17 (fun i k h => by (try dsimp only at h); exact (by omega)) (fun i h => h.elim)) f44 (fun i k h => by (try dsimp only at h); exact (by omega)) (fun i h => h.elim)) f84 (fun i k h => by (try dsimp only at h); exact (by omega)) (fun i h => h.elim)), ri85⟩
            · skip
              have c104 := wt_nceq h89
              refine wt_T_some ?_
              exact ⟨(wt_fr.tr (wt_fr.tr (wt_fr.tr (wt_fr.tr wt_fr.rf fσ4 (fun i k h => by (try dsimp only at h); exact (by omega)) (fun i h => h.elim)) f17 (fun i k h => by (try dsimp only at h); exact (by omega)) (fun i h => h.elim)) f44 (fun i k h => by (try dsimp only at h); exact (by omega)) (fun i h => h.elim)) f84 (fun i k h => by (try dsimp only at h); exact (by omega)) (fun i h => h.elim)), ri85⟩
        · skip
          have c105 := wt_nceq h49
          refine wt_T_some ?_
          exact ⟨(wt_fr.tr (wt_fr.tr (wt_fr.tr wt_fr.rf fσ4 (fun i k h => by (try dsimp only at h); exact (by omega)) (fun i h => h.elim)) f17 (fun i k h => by (try dsimp only at h); exact (by omega)) (fun i h => h.elim)) f44 (fun i k h => by (try dsimp only at h); exact (by omega)) (fun i h => h.elim)), ri45⟩
      · skip
        have c106 := wt_nceq h40
        unfold wp_md_piece_B47
        refine wt_T_bi (wq_md_bad n hn (0 : Int32) (1 : Int32) r15.2 ri18 (by omega)) (fun r107 h108 => ?_)
        obtain ⟨f109, ri110, pp111⟩ := h108
        have bb112 := wt_bd r107.1
        have bb113 := wt_bd (wt_gf r107.2 108 0)
        refine wt_T_if (fun h114 => ?_) (fun h114 => ?_)
        · skip
          have c115 := wt_ceq h114
          refine wt_T_bi (wq_md_in n hn x3 (0 : Int32) (1 : Int32) r107.2 ri110) (fun r116 h117 => ?_)
          obtain ⟨e118, pp119⟩ := h117
          have bb120 := wt_bd r116.1
          rw [e118]
          refine wt_T_if (fun h121 => ?_) (fun h121 => ?_)
          · skip
            have c122 := wt_ceq h121
            unfold wp_md_piece_B69
            refine wt_T_bi (wq_md_bad n hn (1 : Int32) (2 : Int32) r107.2 ri110 (by omega)) (fun r123 h124 => ?_)
            obtain ⟨f125, ri126, pp127⟩ := h124
            have bb128 := wt_bd r123.1
            have bb129 := wt_bd (wt_gf r123.2 108 0)
            refine wt_T_if (fun h130 => ?_) (fun h130 => ?_)
            · skip
              have c131 := wt_ceq h130
              refine wt_T_if (fun h132 => ?_) (fun h132 => ?_)
              · skip
                have c133 := wt_ceq h132
                refine wt_T_bi (wq_md_cell n hn x1 x2 r123.2 ri126 (by omega) (by omega) (by omega) (by omega)) (fun r134 h135 => ?_)
                obtain ⟨e136, pp137⟩ := h135
                have bb138 := wt_bd r134.1
                rw [e136]
                refine wt_T_gd (wt_ix (by omega) (by omega)) ?_
                refine wt_T_some ?_
                exact ⟨(wt_fr.tr (wt_fr.tr (wt_fr.tr (wt_fr.tr wt_fr.rf fσ4 (fun i k h => by (try dsimp only at h); exact (by omega)) (fun i h => h.elim)) f17 (fun i k h => by (try dsimp only at h); exact (by omega)) (fun i h => h.elim)) f109 (fun i k h => by (try dsimp only at h); exact (by omega)) (fun i h => h.elim)) f125 (fun i k h => by (try dsimp only at h); exact (by omega)) (fun i h => h.elim)), ri126⟩
              · skip
                have c139 := wt_nceq h132
                refine wt_T_bi (wq_md_cell n hn x1 x2 r123.2 ri126 (by omega) (by omega) (by omega) (by omega)) (fun r140 h141 => ?_)
                obtain ⟨e142, pp143⟩ := h141
                have bb144 := wt_bd r140.1
                rw [e142]
                refine wt_T_gd (wt_ix (by omega) (by omega)) ?_
                refine wt_T_some ?_
                exact ⟨(wt_fr.tr (wt_fr.tr (wt_fr.tr (wt_fr.tr wt_fr.rf fσ4 (fun i k h => by (try dsimp only at h); exact (by omega)) (fun i h => h.elim)) f17 (fun i k h => by (try dsimp only at h); exact (by omega)) (fun i h => h.elim)) f109 (fun i k h => by (try dsimp only at h); exact (by omega)) (fun i h => h.elim)) f125 (fun i k h => by (try dsimp only at h); exact (by omega)) (fun i h => h.elim)), ri126⟩
            · skip
              have c145 := wt_nceq h130
              refine wt_T_some ?_
              exact ⟨(wt_fr.tr (wt_fr.tr (wt_fr.tr (wt_fr.tr wt_fr.rf fσ4 (fun i k h => by (try dsimp only at h); exact (by omega)) (fun i h => h.elim)) f17 (fun i k h => by (try dsimp only at h); exact (by omega)) (fun i h => h.elim)) f109 (fun i k h => by (try dsimp only at h); exact (by omega)) (fun i h => h.elim)) f125 (fun i k h => by (try dsimp only at h); exact (by omega)) (fun i h => h.elim)), ri126⟩
          · skip
            have c146 := wt_nceq h121
            unfold wp_md_piece_B69
            refine wt_T_bi (wq_md_bad n hn (0 : Int32) (2 : Int32) r107.2 ri110 (by omega)) (fun r147 h148 => ?_)
            obtain ⟨f149, ri150, pp151⟩ := h148
            have bb152 := wt_bd r147.1
            have bb153 := wt_bd (wt_gf r147.2 108 0)
            refine wt_T_if (fun h154 => ?_) (fun h154 => ?_)
            · skip
              have c155 := wt_ceq h154
              refine wt_T_if (fun h156 => ?_) (fun h156 => ?_)
              · skip
                have c157 := wt_ceq h156
                refine wt_T_bi (wq_md_cell n hn x1 x2 r147.2 ri150 (by omega) (by omega) (by omega) (by omega)) (fun r158 h159 => ?_)
                obtain ⟨e160, pp161⟩ := h159
                have bb162 := wt_bd r158.1
                rw [e160]
                refine wt_T_gd (wt_ix (by omega) (by omega)) ?_
                refine wt_T_some ?_
                exact ⟨(wt_fr.tr (wt_fr.tr (wt_fr.tr (wt_fr.tr wt_fr.rf fσ4 (fun i k h => by (try dsimp only at h); exact (by omega)) (fun i h => h.elim)) f17 (fun i k h => by (try dsimp only at h); exact (by omega)) (fun i h => h.elim)) f109 (fun i k h => by (try dsimp only at h); exact (by omega)) (fun i h => h.elim)) f149 (fun i k h => by (try dsimp only at h); exact (by omega)) (fun i h => h.elim)), ri150⟩
              · skip
                have c163 := wt_nceq h156
                refine wt_T_bi (wq_md_cell n hn x1 x2 r147.2 ri150 (by omega) (by omega) (by omega) (by omega)) (fun r164 h165 => ?_)
                obtain ⟨e166, pp167⟩ := h165
                have bb168 := wt_bd r164.1
                rw [e166]
                refine wt_T_gd (wt_ix (by omega) (by omega)) ?_
                refine wt_T_some ?_
                exact ⟨(wt_fr.tr (wt_fr.tr (wt_fr.tr (wt_fr.tr wt_fr.rf fσ4 (fun i k h => by (try dsimp only at h); exact (by omega)) (fun i h => h.elim)) f17 (fun i k h => by (try dsimp only at h); exact (by omega)) (fun i h => h.elim)) f109 (fun i k h => by (try dsimp only at h); exact (by omega)) (fun i h => h.elim)) f149 (fun i k h => by (try dsimp only at h); exact (by omega)) (fun i h => h.elim)), ri150⟩
            · skip
              have c169 := wt_nceq h154
              refine wt_T_some ?_
              exact ⟨(wt_fr.tr (wt_fr.tr (wt_fr.tr (wt_fr.tr wt_fr.rf fσ4 (fun i k h => by (try dsimp only at h); exact (by omega)) (fun i h => h.elim)) f17 (fun i k h => by (try dsimp only at h); exact (by omega)) (fun i h => h.elim)) f109 (fun i k h => by (try dsimp only at h); exact (by omega)) (fun i h => h.elim)) f149 (fun i k h => by (try dsimp only at h); exact (by omega)) (fun i h => h.elim)), ri150⟩
        · skip
          have c170 := wt_nceq h114
          refine wt_T_some ?_
          exact ⟨(wt_fr.tr (wt_fr.tr (wt_fr.tr wt_fr.rf fσ4 (fun i k h => by (try dsimp only at h); exact (by omega)) (fun i h => h.elim)) f17 (fun i k h => by (try dsimp only at h); exact (by omega)) (fun i h => h.elim)) f109 (fun i k h => by (try dsimp only at h); exact (by omega)) (fun i h => h.elim)), ri110⟩
    · skip
      have c171 := wt_nceq h23
      refine wt_T_some ?_
      exact ⟨(wt_fr.tr (wt_fr.tr wt_fr.rf fσ4 (fun i k h => by (try dsimp only at h); exact (by omega)) (fun i h => h.elim)) f17 (fun i k h => by (try dsimp only at h); exact (by omega)) (fun i h => h.elim)), ri18⟩
  · skip
    have c172 := wt_nceq h11
    unfold wp_md_piece_B18
    have k173 : (2 : Int32).toInt = 2 := by decide
    refine wt_T_bi (wq_md_bad n hn (0 : Int32) (2 : Int32) σ4 rσ4 (by omega)) (fun r174 h175 => ?_)
    obtain ⟨f176, ri177, pp178⟩ := h175
    have bb179 := wt_bd r174.1
    have bb180 := wt_bd (wt_gf r174.2 108 0)
    have bb181 := wt_bd (wt_gf σ4 108 0)
    refine wt_T_if (fun h182 => ?_) (fun h182 => ?_)
    · skip
      have c183 := wt_ceq h182
      refine wt_T_gd (wt_ix (by omega) (by omega)) ?_
      have bb184 := wt_tn x1
      have bb185 := wt_bd (wt_ga r174.2 111 (Int32.toNatClampNeg x1))
      have g186 : 0 ≤ (wt_ga r174.2 111 (Int32.toNatClampNeg x1)).toInt ∧ (wt_ga r174.2 111 (Int32.toNatClampNeg x1)).toInt ≤ 13 := wt_R_ga ri177 1 rfl 111 (by decide) (by decide) (Int32.toNatClampNeg x1)
      have tt187 : (wt_ga r174.2 111 (Int32.toNatClampNeg x1)).toInt = (wt_ga σ4 111 (Int32.toNatClampNeg x1)).toInt := congrArg Int32.toInt (f176.2 111 (fun z => z) (Int32.toNatClampNeg x1))
      have bb188 := wt_bd (wt_ga σ4 111 (Int32.toNatClampNeg x1))
      have g189 : 0 ≤ (wt_ga σ4 111 (Int32.toNatClampNeg x1)).toInt ∧ (wt_ga σ4 111 (Int32.toNatClampNeg x1)).toInt ≤ 13 := wt_R_ga rσ4 1 rfl 111 (by decide) (by decide) (Int32.toNatClampNeg x1)
      have tt190 : (wt_ga σ4 111 (Int32.toNatClampNeg x1)).toInt = (wt_ga σ 111 (Int32.toNatClampNeg x1)).toInt := congrArg Int32.toInt (fσ4.2 111 (fun z => z) (Int32.toNatClampNeg x1))
      have bb191 := wt_bd (wt_ga σ 111 (Int32.toNatClampNeg x1))
      have g192 : 0 ≤ (wt_ga σ 111 (Int32.toNatClampNeg x1)).toInt ∧ (wt_ga σ 111 (Int32.toNatClampNeg x1)).toInt ≤ 13 := wt_R_ga r0 1 rfl 111 (by decide) (by decide) (Int32.toNatClampNeg x1)
      have k193 : (1 : Int32).toInt = 1 := by decide
      obtain ⟨j194, j194a, j194b⟩ := wt_subI (wt_ga r174.2 111 (Int32.toNatClampNeg x1)) (1 : Int32)
      refine wt_T_bi (wq_md_in n hn x2 (0 : Int32) ((wt_ga r174.2 111 (Int32.toNatClampNeg x1)) - (1 : Int32)) r174.2 ri177) (fun r195 h196 => ?_)
      obtain ⟨e197, pp198⟩ := h196
      have bb199 := wt_bd r195.1
      rw [e197]
      refine wt_T_if (fun h200 => ?_) (fun h200 => ?_)
      · skip
        have c201 := wt_ceq h200
        unfold wp_md_piece_B47
        refine wt_T_bi (wq_md_bad n hn (1 : Int32) (1 : Int32) r174.2 ri177 (by omega)) (fun r202 h203 => ?_)
        obtain ⟨f204, ri205, pp206⟩ := h203
        have bb207 := wt_bd r202.1
        have bb208 := wt_bd (wt_gf r202.2 108 0)
        refine wt_T_if (fun h209 => ?_) (fun h209 => ?_)
        · skip
          have c210 := wt_ceq h209
          refine wt_T_bi (wq_md_in n hn x3 (0 : Int32) (1 : Int32) r202.2 ri205) (fun r211 h212 => ?_)
          obtain ⟨e213, pp214⟩ := h212
          have bb215 := wt_bd r211.1
          rw [e213]
          refine wt_T_if (fun h216 => ?_) (fun h216 => ?_)
          · skip
            have c217 := wt_ceq h216
            unfold wp_md_piece_B69
            refine wt_T_bi (wq_md_bad n hn (1 : Int32) (2 : Int32) r202.2 ri205 (by omega)) (fun r218 h219 => ?_)
            obtain ⟨f220, ri221, pp222⟩ := h219
            have bb223 := wt_bd r218.1
            have bb224 := wt_bd (wt_gf r218.2 108 0)
            refine wt_T_if (fun h225 => ?_) (fun h225 => ?_)
            · skip
              have c226 := wt_ceq h225
              refine wt_T_if (fun h227 => ?_) (fun h227 => ?_)
              · skip
                have c228 := wt_ceq h227
                refine wt_T_bi (wq_md_cell n hn x1 x2 r218.2 ri221 (by omega) (by omega) (by omega) (by omega)) (fun r229 h230 => ?_)
                obtain ⟨e231, pp232⟩ := h230
                have bb233 := wt_bd r229.1
                rw [e231]
                refine wt_T_gd (wt_ix (by omega) (by omega)) ?_
                refine wt_T_some ?_
                exact ⟨(wt_fr.tr (wt_fr.tr (wt_fr.tr (wt_fr.tr wt_fr.rf fσ4 (fun i k h => by (try dsimp only at h); exact (by omega)) (fun i h => h.elim)) f176 (fun i k h => by (try dsimp only at h); exact (by omega)) (fun i h => h.elim)) f204 (fun i k h => by (try dsimp only at h); exact (by omega)) (fun i h => h.elim)) f220 (fun i k h => by (try dsimp only at h); exact (by omega)) (fun i h => h.elim)), ri221⟩
              · skip
                have c234 := wt_nceq h227
                refine wt_T_bi (wq_md_cell n hn x1 x2 r218.2 ri221 (by omega) (by omega) (by omega) (by omega)) (fun r235 h236 => ?_)
                obtain ⟨e237, pp238⟩ := h236
                have bb239 := wt_bd r235.1
                rw [e237]
                refine wt_T_gd (wt_ix (by omega) (by omega)) ?_
                refine wt_T_some ?_
                exact ⟨(wt_fr.tr (wt_fr.tr (wt_fr.tr (wt_fr.tr wt_fr.rf fσ4 (fun i k h => by (try dsimp only at h); exact (by omega)) (fun i h => h.elim)) f176 (fun i k h => by (try dsimp only at h); exact (by omega)) (fun i h => h.elim)) f204 (fun i k h => by (try dsimp only at h); exact (by omega)) (fun i h => h.elim)) f220 (fun i k h => by (try dsimp only at h); exact (by omega)) (fun i h => h.elim)), ri221⟩
            · skip
              have c240 := wt_nceq h225
              refine wt_T_some ?_
              exact ⟨(wt_fr.tr (wt_fr.tr (wt_fr.tr (wt_fr.tr wt_fr.rf fσ4 (fun i k h => by (try dsimp only at h); exact (by omega)) (fun i h => h.elim)) f176 (fun i k h => by (try dsimp only at h); exact (by omega)) (fun i h => h.elim)) f204 (fun i k h => by (try dsimp only at h); exact (by omega)) (fun i h => h.elim)) f220 (fun i k h => by (try dsimp only at h); exact (by omega)) (fun i h => h.elim)), ri221⟩
          · skip
            have c241 := wt_nceq h216
            unfold wp_md_piece_B69
            refine wt_T_bi (wq_md_bad n hn (0 : Int32) (2 : Int32) r202.2 ri205 (by omega)) (fun r242 h243 => ?_)
            obtain ⟨f244, ri245, pp246⟩ := h243
            have bb247 := wt_bd r242.1
            have bb248 := wt_bd (wt_gf r242.2 108 0)
            refine wt_T_if (fun h249 => ?_) (fun h249 => ?_)
            · skip
              have c250 := wt_ceq h249
              refine wt_T_if (fun h251 => ?_) (fun h251 => ?_)
              · skip
                have c252 := wt_ceq h251
                refine wt_T_bi (wq_md_cell n hn x1 x2 r242.2 ri245 (by omega) (by omega) (by omega) (by omega)) (fun r253 h254 => ?_)
                obtain ⟨e255, pp256⟩ := h254
                have bb257 := wt_bd r253.1
                rw [e255]
                refine wt_T_gd (wt_ix (by omega) (by omega)) ?_
                refine wt_T_some ?_
                exact ⟨(wt_fr.tr (wt_fr.tr (wt_fr.tr (wt_fr.tr wt_fr.rf fσ4 (fun i k h => by (try dsimp only at h); exact (by omega)) (fun i h => h.elim)) f176 (fun i k h => by (try dsimp only at h); exact (by omega)) (fun i h => h.elim)) f204 (fun i k h => by (try dsimp only at h); exact (by omega)) (fun i h => h.elim)) f244 (fun i k h => by (try dsimp only at h); exact (by omega)) (fun i h => h.elim)), ri245⟩
              · skip
                have c258 := wt_nceq h251
                refine wt_T_bi (wq_md_cell n hn x1 x2 r242.2 ri245 (by omega) (by omega) (by omega) (by omega)) (fun r259 h260 => ?_)
                obtain ⟨e261, pp262⟩ := h260
                have bb263 := wt_bd r259.1
                rw [e261]
                refine wt_T_gd (wt_ix (by omega) (by omega)) ?_
                refine wt_T_some ?_
                exact ⟨(wt_fr.tr (wt_fr.tr (wt_fr.tr (wt_fr.tr wt_fr.rf fσ4 (fun i k h => by (try dsimp only at h); exact (by omega)) (fun i h => h.elim)) f176 (fun i k h => by (try dsimp only at h); exact (by omega)) (fun i h => h.elim)) f204 (fun i k h => by (try dsimp only at h); exact (by omega)) (fun i h => h.elim)) f244 (fun i k h => by (try dsimp only at h); exact (by omega)) (fun i h => h.elim)), ri245⟩
            · skip
              have c264 := wt_nceq h249
              refine wt_T_some ?_
              exact ⟨(wt_fr.tr (wt_fr.tr (wt_fr.tr (wt_fr.tr wt_fr.rf fσ4 (fun i k h => by (try dsimp only at h); exact (by omega)) (fun i h => h.elim)) f176 (fun i k h => by (try dsimp only at h); exact (by omega)) (fun i h => h.elim)) f204 (fun i k h => by (try dsimp only at h); exact (by omega)) (fun i h => h.elim)) f244 (fun i k h => by (try dsimp only at h); exact (by omega)) (fun i h => h.elim)), ri245⟩
        · skip
          have c265 := wt_nceq h209
          refine wt_T_some ?_
          exact ⟨(wt_fr.tr (wt_fr.tr (wt_fr.tr wt_fr.rf fσ4 (fun i k h => by (try dsimp only at h); exact (by omega)) (fun i h => h.elim)) f176 (fun i k h => by (try dsimp only at h); exact (by omega)) (fun i h => h.elim)) f204 (fun i k h => by (try dsimp only at h); exact (by omega)) (fun i h => h.elim)), ri205⟩
      · skip
        have c266 := wt_nceq h200
        unfold wp_md_piece_B47
        refine wt_T_bi (wq_md_bad n hn (0 : Int32) (1 : Int32) r174.2 ri177 (by omega)) (fun r267 h268 => ?_)
        obtain ⟨f269, ri270, pp271⟩ := h268
        have bb272 := wt_bd r267.1
        have bb273 := wt_bd (wt_gf r267.2 108 0)
        refine wt_T_if (fun h274 => ?_) (fun h274 => ?_)
        · skip
          have c275 := wt_ceq h274
          refine wt_T_bi (wq_md_in n hn x3 (0 : Int32) (1 : Int32) r267.2 ri270) (fun r276 h277 => ?_)
          obtain ⟨e278, pp279⟩ := h277
          have bb280 := wt_bd r276.1
          rw [e278]
          refine wt_T_if (fun h281 => ?_) (fun h281 => ?_)
          · skip
            have c282 := wt_ceq h281
            unfold wp_md_piece_B69
            refine wt_T_bi (wq_md_bad n hn (1 : Int32) (2 : Int32) r267.2 ri270 (by omega)) (fun r283 h284 => ?_)
            obtain ⟨f285, ri286, pp287⟩ := h284
            have bb288 := wt_bd r283.1
            have bb289 := wt_bd (wt_gf r283.2 108 0)
            refine wt_T_if (fun h290 => ?_) (fun h290 => ?_)
            · skip
              have c291 := wt_ceq h290
              refine wt_T_if (fun h292 => ?_) (fun h292 => ?_)
              · skip
                have c293 := wt_ceq h292
                refine wt_T_bi (wq_md_cell n hn x1 x2 r283.2 ri286 (by omega) (by omega) (by omega) (by omega)) (fun r294 h295 => ?_)
                obtain ⟨e296, pp297⟩ := h295
                have bb298 := wt_bd r294.1
                rw [e296]
                refine wt_T_gd (wt_ix (by omega) (by omega)) ?_
                refine wt_T_some ?_
                exact ⟨(wt_fr.tr (wt_fr.tr (wt_fr.tr (wt_fr.tr wt_fr.rf fσ4 (fun i k h => by (try dsimp only at h); exact (by omega)) (fun i h => h.elim)) f176 (fun i k h => by (try dsimp only at h); exact (by omega)) (fun i h => h.elim)) f269 (fun i k h => by (try dsimp only at h); exact (by omega)) (fun i h => h.elim)) f285 (fun i k h => by (try dsimp only at h); exact (by omega)) (fun i h => h.elim)), ri286⟩
              · skip
                have c299 := wt_nceq h292
                refine wt_T_bi (wq_md_cell n hn x1 x2 r283.2 ri286 (by omega) (by omega) (by omega) (by omega)) (fun r300 h301 => ?_)
                obtain ⟨e302, pp303⟩ := h301
                have bb304 := wt_bd r300.1
                rw [e302]
                refine wt_T_gd (wt_ix (by omega) (by omega)) ?_
                refine wt_T_some ?_
                exact ⟨(wt_fr.tr (wt_fr.tr (wt_fr.tr (wt_fr.tr wt_fr.rf fσ4 (fun i k h => by (try dsimp only at h); exact (by omega)) (fun i h => h.elim)) f176 (fun i k h => by (try dsimp only at h); exact (by omega)) (fun i h => h.elim)) f269 (fun i k h => by (try dsimp only at h); exact (by omega)) (fun i h => h.elim)) f285 (fun i k h => by (try dsimp only at h); exact (by omega)) (fun i h => h.elim)), ri286⟩
            · skip
              have c305 := wt_nceq h290
              refine wt_T_some ?_
              exact ⟨(wt_fr.tr (wt_fr.tr (wt_fr.tr (wt_fr.tr wt_fr.rf fσ4 (fun i k h => by (try dsimp only at h); exact (by omega)) (fun i h => h.elim)) f176 (fun i k h => by (try dsimp only at h); exact (by omega)) (fun i h => h.elim)) f269 (fun i k h => by (try dsimp only at h); exact (by omega)) (fun i h => h.elim)) f285 (fun i k h => by (try dsimp only at h); exact (by omega)) (fun i h => h.elim)), ri286⟩
          · skip
            have c306 := wt_nceq h281
            unfold wp_md_piece_B69
            refine wt_T_bi (wq_md_bad n hn (0 : Int32) (2 : Int32) r267.2 ri270 (by omega)) (fun r307 h308 => ?_)
            obtain ⟨f309, ri310, pp311⟩ := h308
            have bb312 := wt_bd r307.1
            have bb313 := wt_bd (wt_gf r307.2 108 0)
            refine wt_T_if (fun h314 => ?_) (fun h314 => ?_)
            · skip
              have c315 := wt_ceq h314
              refine wt_T_if (fun h316 => ?_) (fun h316 => ?_)
              · skip
                have c317 := wt_ceq h316
                refine wt_T_bi (wq_md_cell n hn x1 x2 r307.2 ri310 (by omega) (by omega) (by omega) (by omega)) (fun r318 h319 => ?_)
                obtain ⟨e320, pp321⟩ := h319
                have bb322 := wt_bd r318.1
                rw [e320]
                refine wt_T_gd (wt_ix (by omega) (by omega)) ?_
                refine wt_T_some ?_
                exact ⟨(wt_fr.tr (wt_fr.tr (wt_fr.tr (wt_fr.tr wt_fr.rf fσ4 (fun i k h => by (try dsimp only at h); exact (by omega)) (fun i h => h.elim)) f176 (fun i k h => by (try dsimp only at h); exact (by omega)) (fun i h => h.elim)) f269 (fun i k h => by (try dsimp only at h); exact (by omega)) (fun i h => h.elim)) f309 (fun i k h => by (try dsimp only at h); exact (by omega)) (fun i h => h.elim)), ri310⟩
              · skip
                have c323 := wt_nceq h316
                refine wt_T_bi (wq_md_cell n hn x1 x2 r307.2 ri310 (by omega) (by omega) (by omega) (by omega)) (fun r324 h325 => ?_)
                obtain ⟨e326, pp327⟩ := h325
                have bb328 := wt_bd r324.1
                rw [e326]
                refine wt_T_gd (wt_ix (by omega) (by omega)) ?_
                refine wt_T_some ?_
                exact ⟨(wt_fr.tr (wt_fr.tr (wt_fr.tr (wt_fr.tr wt_fr.rf fσ4 (fun i k h => by (try dsimp only at h); exact (by omega)) (fun i h => h.elim)) f176 (fun i k h => by (try dsimp only at h); exact (by omega)) (fun i h => h.elim)) f269 (fun i k h => by (try dsimp only at h); exact (by omega)) (fun i h => h.elim)) f309 (fun i k h => by (try dsimp only at h); exact (by omega)) (fun i h => h.elim)), ri310⟩
            · skip
              have c329 := wt_nceq h314
              refine wt_T_some ?_
              exact ⟨(wt_fr.tr (wt_fr.tr (wt_fr.tr (wt_fr.tr wt_fr.rf fσ4 (fun i k h => by (try dsimp only at h); exact (by omega)) (fun i h => h.elim)) f176 (fun i k h => by (try dsimp only at h); exact (by omega)) (fun i h => h.elim)) f269 (fun i k h => by (try dsimp only at h); exact (by omega)) (fun i h => h.elim)) f309 (fun i k h => by (try dsimp only at h); exact (by omega)) (fun i h => h.elim)), ri310⟩
        · skip
          have c330 := wt_nceq h274
          refine wt_T_some ?_
          exact ⟨(wt_fr.tr (wt_fr.tr (wt_fr.tr wt_fr.rf fσ4 (fun i k h => by (try dsimp only at h); exact (by omega)) (fun i h => h.elim)) f176 (fun i k h => by (try dsimp only at h); exact (by omega)) (fun i h => h.elim)) f269 (fun i k h => by (try dsimp only at h); exact (by omega)) (fun i h => h.elim)), ri270⟩
    · skip
      have c331 := wt_nceq h182
      refine wt_T_some ?_
      exact ⟨(wt_fr.tr (wt_fr.tr wt_fr.rf fσ4 (fun i k h => by (try dsimp only at h); exact (by omega)) (fun i h => h.elim)) f176 (fun i k h => by (try dsimp only at h); exact (by omega)) (fun i h => h.elim)), ri177⟩
