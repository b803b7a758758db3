set_option maxRecDepth 100000 in
set_option maxHeartbeats 4000000 in
theorem wq_md_text_B30 (n : Nat) (hn : 4294967297 < n) (x1 : Int32) (y1 : Int32) (σ : wt_St) (r0 : wt_RI σ) (p0 : y1.toInt ≠ 0 ∨ (0 ≤ x1.toInt ∧ x1.toInt ≤ 500)) : wt_T (wp_md_text_B30 n x1 y1 σ) (fun q => wt_fr (fun i k => (i = 108 ∧ k = 0) ∨ (i = 108 ∧ k = 1) ∨ (i = 108 ∧ k = 2) ∨ (i = 108 ∧ k = 4) ∨ (i = 108 ∧ k = 5) ∨ (i = 108 ∧ k = 6) ∨ (i = 108 ∧ k = 7) ∨ (i = 108 ∧ k = 3) ∨ (i = 108 ∧ k = 39)) (fun i => i = 274 ∨ i = 253 ∨ (255 ≤ i ∧ i < 263)) σ q.2 ∧ wt_RI q.2 ∧ ((y1.toInt ≠ 0 → (wt_gf q.2 108 1).toInt = (wt_gf σ 108 1).toInt) ∧ (y1.toInt = 0 ∧ (wt_gf σ 108 0).toInt = 0 → (wt_gf q.2 108 1).toInt = 0))) := by
  have bb1 := wt_bd x1
  have bb2 := wt_bd y1
  unfold wp_md_text_B30
  have k3 : (1 : Int32).toInt = 1 := by decide
  refine wt_T_bi (wq_md_bad n hn y1 (1 : Int32) σ r0 (by omega)) (fun r4 h5 => ?_)
  obtain ⟨f6, ri7, pp8⟩ := h5
  have bb9 := wt_bd r4.1
  have bb10 := wt_bd (wt_gf r4.2 108 0)
  have bb11 := wt_bd (wt_gf σ 108 0)
  have k12 : (0 : Int32).toInt = 0 := by decide
  refine wt_T_if (fun h13 => ?_) (fun h13 => ?_)
  · skip
    have c14 := wt_ceq h13
    refine wt_T_bi (wq_md_starts n hn x1 r4.2 ri7 (by omega) (by omega)) (fun r15 h16 => ?_)
    obtain ⟨f17, ri18, pp19⟩ := h16
    have bb20 := wt_bd (wt_gf r15 108 1)
    have g21 : 0 ≤ (wt_gf r15 108 1).toInt ∧ (wt_gf r15 108 1).toInt ≤ 500 := wt_R_gf ri18 0 rfl
    have bb22 := wt_bd (wt_gf r15 108 5)
    have g23 : 0 ≤ (wt_gf r15 108 5).toInt ∧ (wt_gf r15 108 5).toInt ≤ 3 := wt_R_gf ri18 3 rfl
    have bb24 := wt_bd (wt_gf r15 108 7)
    have g25 : 0 ≤ (wt_gf r15 108 7).toInt ∧ (wt_gf r15 108 7).toInt ≤ 60 := wt_R_gf ri18 4 rfl
    obtain ⟨σ26, eσ26⟩ : ∃ z : wt_St, z = wt_sf r15 108 3 (-1 : Int32) := ⟨_, rfl⟩
    rw [← eσ26]
    have fσ26 := wt_fr_sf eσ26
    have vσ26 := wt_ceq (wt_v_sf eσ26)
    have rσ26 := wt_RI_fno ri18 eσ26 (Or.inr (by decide))
    have bb27 := wt_bd (wt_gf σ26 108 39)
    have g28 : 0 ≤ (wt_gf σ26 108 39).toInt ∧ (wt_gf σ26 108 39).toInt ≤ 8 := wt_R_gf rσ26 7 rfl
    have tt29 : (wt_gf σ26 108 39).toInt = (wt_gf r15 108 39).toInt := congrArg Int32.toInt (fσ26.1 108 39 (by (try dsimp only); omega))
    have bb30 := wt_bd (wt_gf r15 108 39)
    have g31 : 0 ≤ (wt_gf r15 108 39).toInt ∧ (wt_gf r15 108 39).toInt ≤ 8 := wt_R_gf ri18 7 rfl
    have tt32 : (wt_gf r15 108 39).toInt = (wt_gf r4.2 108 39).toInt := congrArg Int32.toInt (f17.1 108 39 (by (try dsimp only); omega))
    have bb33 := wt_bd (wt_gf r4.2 108 39)
    have g34 : 0 ≤ (wt_gf r4.2 108 39).toInt ∧ (wt_gf r4.2 108 39).toInt ≤ 8 := wt_R_gf ri7 7 rfl
    have tt35 : (wt_gf r4.2 108 39).toInt = (wt_gf σ 108 39).toInt := congrArg Int32.toInt (f6.1 108 39 (by (try dsimp only); omega))
    have bb36 := wt_bd (wt_gf σ 108 39)
    have g37 : 0 ≤ (wt_gf σ 108 39).toInt ∧ (wt_gf σ 108 39).toInt ≤ 8 := wt_R_gf r0 7 rfl
    have k38 : (8 : Int32).toInt = 8 := by decide
    refine wt_T_if (fun h39 => ?_) (fun h39 => ?_)
    · skip
      have c40 := wt_ceq h39
      refine wt_T_some ?_
      have k41 := wt_lm1
      have bb42 := wt_bd (wt_gf σ26 108 1)
      have g43 : 0 ≤ (wt_gf σ26 108 1).toInt ∧ (wt_gf σ26 108 1).toInt ≤ 500 := wt_R_gf rσ26 0 rfl
      have tt44 : (wt_gf σ26 108 1).toInt = (wt_gf r15 108 1).toInt := congrArg Int32.toInt (fσ26.1 108 1 (by (try dsimp only); omega))
      have bb45 := wt_bd (wt_gf σ 108 1)
      have g46 : 0 ≤ (wt_gf σ 108 1).toInt ∧ (wt_gf σ 108 1).toInt ≤ 500 := wt_R_gf r0 0 rfl
      exact ⟨(wt_fr.tr (wt_fr.tr (wt_fr.tr wt_fr.rf f6 (fun i k h => by (try dsimp only at h); exact Or.inl (by omega)) (fun i h => h.elim)) f17 (fun i k h => by (try dsimp only at h); rcases h with h | h | h | h | h | h; exact Or.inr (Or.inl (by omega)); exact Or.inr (Or.inr (Or.inl (by omega))); exact Or.inr (Or.inr (Or.inr (Or.inl (by omega)))); exact Or.inr (Or.inr (Or.inr (Or.inr (Or.inl (by omega))))); exact Or.inr (Or.inr (Or.inr (Or.inr (Or.inr (Or.inl (by omega)))))); exact Or.inr (Or.inr (Or.inr (Or.inr (Or.inr (Or.inr (Or.inl (by omega)))))))) (fun i h => h.elim)) fσ26 (fun i k h => by (try dsimp only at h); exact Or.inr (Or.inr (Or.inr (Or.inr (Or.inr (Or.inr (Or.inr (Or.inl (by omega))))))))) (fun i h => h.elim)), rσ26, (show ((y1.toInt ≠ 0 → (wt_gf σ26 108 1).toInt = (wt_gf σ 108 1).toInt) ∧ (y1.toInt = 0 ∧ (wt_gf σ 108 0).toInt = 0 → (wt_gf σ26 108 1).toInt = 0)) from by omega)⟩
    · skip
      have c47 := wt_nceq h39
      refine wt_T_it (fun s : Int32 × wt_St => wt_fr (fun i k => (i = 108 ∧ k = 4) ∨ (i = 108 ∧ k = 5) ∨ (i = 108 ∧ k = 6)) (fun i => i = 274) σ26 s.2 ∧ 0 ≤ (s.1).toInt ∧ s.1.toInt ≤ 12 ∧ wt_RI s.2) (fun s : Int32 × wt_St => (13 - s.1.toInt).toNat) (fun KK48 z49 I50 hKK48 => ?_) _ _ ?_ ?_
      · skip
        obtain ⟨l51, l52, l53, l54⟩ := I50
        unfold wp_md_text_B62
        have bb55 := wt_bd z49.1
        have bb56 := wt_bd (wt_gf z49.2 108 5)
        have g57 : 0 ≤ (wt_gf z49.2 108 5).toInt ∧ (wt_gf z49.2 108 5).toInt ≤ 3 := wt_R_gf l54 3 rfl
        refine wt_T_if (fun h58 => ?_) (fun h58 => ?_)
        · skip
          have c59 := wt_ceq h58
          have bb60 := wt_bd (wt_gf z49.2 108 4)
          have g61 : 0 ≤ (wt_gf z49.2 108 4).toInt ∧ (wt_gf z49.2 108 4).toInt ≤ 500 := wt_R_gf l54 2 rfl
          have bb62 := wt_bd (wt_gf z49.2 108 2)
          have g63 : 0 ≤ (wt_gf z49.2 108 2).toInt ∧ (wt_gf z49.2 108 2).toInt ≤ 500 := wt_R_gf l54 1 rfl
          have tt64 : (wt_gf z49.2 108 2).toInt = (wt_gf σ26 108 2).toInt := congrArg Int32.toInt (l51.1 108 2 (by (try dsimp only); omega))
          have bb65 := wt_bd (wt_gf σ26 108 2)
          have g66 : 0 ≤ (wt_gf σ26 108 2).toInt ∧ (wt_gf σ26 108 2).toInt ≤ 500 := wt_R_gf rσ26 1 rfl
          have tt67 : (wt_gf σ26 108 2).toInt = (wt_gf r15 108 2).toInt := congrArg Int32.toInt (fσ26.1 108 2 (by (try dsimp only); omega))
          have bb68 := wt_bd (wt_gf r15 108 2)
          have g69 : 0 ≤ (wt_gf r15 108 2).toInt ∧ (wt_gf r15 108 2).toInt ≤ 500 := wt_R_gf ri18 1 rfl
          refine wt_T_if (fun h70 => ?_) (fun h70 => ?_)
          · skip
            have c71 := wt_clt h70
            unfold wp_md_text_B84
            refine wt_T_bi (wq_md_lettersHere n hn z49.2 l54) (fun r72 h73 => ?_)
            obtain ⟨f74, ri75, pp76⟩ := h73
            have bb77 := wt_bd r72.1
            have bb78 := wt_bd (wt_gf r72.2 108 4)
            have g79 : 0 ≤ (wt_gf r72.2 108 4).toInt ∧ (wt_gf r72.2 108 4).toInt ≤ 500 := wt_R_gf ri75 2 rfl
            have bb80 := wt_bd (wt_gf r72.2 108 2)
            have g81 : 0 ≤ (wt_gf r72.2 108 2).toInt ∧ (wt_gf r72.2 108 2).toInt ≤ 500 := wt_R_gf ri75 1 rfl
            have tt82 : (wt_gf r72.2 108 2).toInt = (wt_gf z49.2 108 2).toInt := congrArg Int32.toInt (f74.1 108 2 (by (try dsimp only); omega))
            have bb83 := wt_bd (wt_gf r72.2 108 28)
            have g84 : 0 ≤ (wt_gf r72.2 108 28).toInt ∧ (wt_gf r72.2 108 28).toInt ≤ 60 := wt_R_gf ri75 6 rfl
            have tt85 : (wt_gf r72.2 108 28).toInt = (wt_gf z49.2 108 28).toInt := congrArg Int32.toInt (f74.1 108 28 (by (try dsimp only); omega))
            have bb86 := wt_bd (wt_gf z49.2 108 28)
            have g87 : 0 ≤ (wt_gf z49.2 108 28).toInt ∧ (wt_gf z49.2 108 28).toInt ≤ 60 := wt_R_gf l54 6 rfl
            have tt88 : (wt_gf z49.2 108 28).toInt = (wt_gf σ26 108 28).toInt := congrArg Int32.toInt (l51.1 108 28 (by (try dsimp only); omega))
            have bb89 := wt_bd (wt_gf σ26 108 28)
            have g90 : 0 ≤ (wt_gf σ26 108 28).toInt ∧ (wt_gf σ26 108 28).toInt ≤ 60 := wt_R_gf rσ26 6 rfl
            have tt91 : (wt_gf σ26 108 28).toInt = (wt_gf r15 108 28).toInt := congrArg Int32.toInt (fσ26.1 108 28 (by (try dsimp only); omega))
            have bb92 := wt_bd (wt_gf r15 108 28)
            have g93 : 0 ≤ (wt_gf r15 108 28).toInt ∧ (wt_gf r15 108 28).toInt ≤ 60 := wt_R_gf ri18 6 rfl
            have tt94 : (wt_gf r15 108 28).toInt = (wt_gf r4.2 108 28).toInt := congrArg Int32.toInt (f17.1 108 28 (by (try dsimp only); omega))
            have bb95 := wt_bd (wt_gf r4.2 108 28)
            have g96 : 0 ≤ (wt_gf r4.2 108 28).toInt ∧ (wt_gf r4.2 108 28).toInt ≤ 60 := wt_R_gf ri7 6 rfl
            have tt97 : (wt_gf r4.2 108 28).toInt = (wt_gf σ 108 28).toInt := congrArg Int32.toInt (f6.1 108 28 (by (try dsimp only); omega))
            have bb98 := wt_bd (wt_gf σ 108 28)
            have g99 : 0 ≤ (wt_gf σ 108 28).toInt ∧ (wt_gf σ 108 28).toInt ≤ 60 := wt_R_gf r0 6 rfl
            refine wt_T_bi (wq_md_wordOf_192_126 n hn r72.1 (wt_gf r72.2 108 28) r72.2 ri75 (by omega)) (fun r100 h101 => ?_)
            obtain ⟨e102, pp103⟩ := h101
            have bb104 := wt_bd r100.1
            rw [e102]
            refine wt_T_if (fun h105 => ?_) (fun h105 => ?_)
            · skip
              have c106 := wt_ceq h105
              refine wt_T_bi (wq_md_wrong n hn (1 : Int32) (wt_gf r72.2 108 4) r72.2 ri75 (by omega) (by omega)) (fun r107 h108 => ?_)
              obtain ⟨f109, ri110, pp111⟩ := h108
              have bb112 := wt_bd (wt_gf r107 108 5)
              have g113 : 0 ≤ (wt_gf r107 108 5).toInt ∧ (wt_gf r107 108 5).toInt ≤ 3 := wt_R_gf ri110 3 rfl
              unfold wp_md_text_B157
              refine wt_T_if (fun h114 => ?_) (fun h114 => ?_)
              · skip
                have c115 := wt_ceq h114
                refine wt_T_gd (wt_ix (by omega) (by omega)) ?_
                obtain ⟨σ116, eσ116⟩ : ∃ z : wt_St, z = wt_sa r107 274 (Int32.toNatClampNeg z49.1) r100.1 := ⟨_, rfl⟩
                rw [← eσ116]
                have fσ116 := wt_fr_sa eσ116
                have vσ116 := wt_ceq (wt_v_sa eσ116)
                have bb117 := wt_tn z49.1
                have rσ116 := wt_RI_in ri110 eσ116 11 rfl (by decide) (by decide) (show 0 ≤ (r100.1).toInt by omega) (show (r100.1).toInt ≤ 59 by omega)
                obtain ⟨σ118, eσ118⟩ : ∃ z : wt_St, z = wt_sf σ116 108 4 ((wt_gf σ116 108 4) + r72.1) := ⟨_, rfl⟩
                rw [← eσ118]
                have fσ118 := wt_fr_sf eσ118
                have vσ118 := wt_ceq (wt_v_sf eσ118)
                have bb119 := wt_bd (wt_gf σ116 108 4)
                have g120 : 0 ≤ (wt_gf σ116 108 4).toInt ∧ (wt_gf σ116 108 4).toInt ≤ 500 := wt_R_gf rσ116 2 rfl
                have tt121 : (wt_gf σ116 108 4).toInt = (wt_gf r107 108 4).toInt := congrArg Int32.toInt (fσ116.1 108 4 (fun z => z))
                have bb122 := wt_bd (wt_gf r107 108 4)
                have g123 : 0 ≤ (wt_gf r107 108 4).toInt ∧ (wt_gf r107 108 4).toInt ≤ 500 := wt_R_gf ri110 2 rfl
                have tt124 : (wt_gf r107 108 4).toInt = (wt_gf r72.2 108 4).toInt := congrArg Int32.toInt (f109.1 108 4 (by (try dsimp only); omega))
                obtain ⟨j125, j125a, j125b⟩ := wt_addI (wt_gf σ116 108 4) r72.1
                have rσ118 := wt_RI_fin rσ116 eσ118 2 rfl rfl (show 0 ≤ ((wt_gf σ116 108 4) + r72.1).toInt by omega) (show ((wt_gf σ116 108 4) + r72.1).toInt ≤ 500 by omega)
                refine wt_T_bi (wq_md_blanks n hn σ118 rσ118) (fun r126 h127 => ?_)
                obtain ⟨f128, ri129, pp130⟩ := h127
                have bb131 := wt_bd (wt_gf σ118 108 4)
                have g132 : 0 ≤ (wt_gf σ118 108 4).toInt ∧ (wt_gf σ118 108 4).toInt ≤ 500 := wt_R_gf rσ118 2 rfl
                have bb133 := wt_bd (wt_gf r126 108 4)
                have g134 : 0 ≤ (wt_gf r126 108 4).toInt ∧ (wt_gf r126 108 4).toInt ≤ 500 := wt_R_gf ri129 2 rfl
                obtain ⟨j135, j135a, j135b⟩ := wt_addI z49.1 (1 : Int32)
                refine hKK48 _ ⟨(wt_fr.tr (wt_fr.tr (wt_fr.tr (wt_fr.tr (wt_fr.tr (wt_fr.tr wt_fr.rf l51 (fun i k h => by (try dsimp only at h); rcases h with h | h | h; exact Or.inl (by omega); exact Or.inr (Or.inl (by omega)); exact Or.inr (Or.inr ((by omega)))) (fun i h => by (try dsimp only at h); exact (by omega))) f74 (fun i k h => by (try dsimp only at h); exact Or.inl (by omega)) (fun i h => h.elim)) f109 (fun i k h => by (try dsimp only at h); rcases h with h | h; exact Or.inr (Or.inl (by omega)); exact Or.inr (Or.inr ((by omega)))) (fun i h => h.elim)) fσ116 (fun i k h => h.elim) (fun i h => by (try dsimp only at h); exact (by omega))) fσ118 (fun i k h => by (try dsimp only at h); exact Or.inl (by omega)) (fun i h => h.elim)) f128 (fun i k h => by (try dsimp only at h); exact Or.inl (by omega)) (fun i h => h.elim)), (show 0 ≤ ((z49.1 + (1 : Int32))).toInt by omega), (show (z49.1 + (1 : Int32)).toInt ≤ 12 by omega), ri129⟩ ?_
                show (13 - (z49.1 + (1 : Int32)).toInt).toNat < (13 - z49.1.toInt).toNat
                omega
              · skip
                have c136 := wt_nceq h114
                have bb137 := wt_bd (wt_gf r107 108 39)
                have g138 : 0 ≤ (wt_gf r107 108 39).toInt ∧ (wt_gf r107 108 39).toInt ≤ 8 := wt_R_gf ri110 7 rfl
                have tt139 : (wt_gf r107 108 39).toInt = (wt_gf r72.2 108 39).toInt := congrArg Int32.toInt (f109.1 108 39 (by (try dsimp only); omega))
                have bb140 := wt_bd (wt_gf r72.2 108 39)
                have g141 : 0 ≤ (wt_gf r72.2 108 39).toInt ∧ (wt_gf r72.2 108 39).toInt ≤ 8 := wt_R_gf ri75 7 rfl
                have tt142 : (wt_gf r72.2 108 39).toInt = (wt_gf z49.2 108 39).toInt := congrArg Int32.toInt (f74.1 108 39 (by (try dsimp only); omega))
                have bb143 := wt_bd (wt_gf z49.2 108 39)
                have g144 : 0 ≤ (wt_gf z49.2 108 39).toInt ∧ (wt_gf z49.2 108 39).toInt ≤ 8 := wt_R_gf l54 7 rfl
                have tt145 : (wt_gf z49.2 108 39).toInt = (wt_gf σ26 108 39).toInt := congrArg Int32.toInt (l51.1 108 39 (by (try dsimp only); omega))
                refine wt_T.imp (wq_md_text_B195 n hn z49.1 r107 ri110 (by omega) (by omega) (by omega)) (fun r146 h147 => ?_)
                have bb148 := wt_bd r146.1
                obtain ⟨f149, ri150⟩ := h147
                have bb151 := wt_bd (wt_gf r146.2 108 1)
                have g152 : 0 ≤ (wt_gf r146.2 108 1).toInt ∧ (wt_gf r146.2 108 1).toInt ≤ 500 := wt_R_gf ri150 0 rfl
                have tt153 : (wt_gf r146.2 108 1).toInt = (wt_gf r107 108 1).toInt := congrArg Int32.toInt (f149.1 108 1 (by (try dsimp only); omega))
                have bb154 := wt_bd (wt_gf r107 108 1)
                have g155 : 0 ≤ (wt_gf r107 108 1).toInt ∧ (wt_gf r107 108 1).toInt ≤ 500 := wt_R_gf ri110 0 rfl
                have tt156 : (wt_gf r107 108 1).toInt = (wt_gf r72.2 108 1).toInt := congrArg Int32.toInt (f109.1 108 1 (by (try dsimp only); omega))
                have bb157 := wt_bd (wt_gf r72.2 108 1)
                have g158 : 0 ≤ (wt_gf r72.2 108 1).toInt ∧ (wt_gf r72.2 108 1).toInt ≤ 500 := wt_R_gf ri75 0 rfl
                have tt159 : (wt_gf r72.2 108 1).toInt = (wt_gf z49.2 108 1).toInt := congrArg Int32.toInt (f74.1 108 1 (by (try dsimp only); omega))
                have bb160 := wt_bd (wt_gf z49.2 108 1)
                have g161 : 0 ≤ (wt_gf z49.2 108 1).toInt ∧ (wt_gf z49.2 108 1).toInt ≤ 500 := wt_R_gf l54 0 rfl
                have tt162 : (wt_gf z49.2 108 1).toInt = (wt_gf σ26 108 1).toInt := congrArg Int32.toInt (l51.1 108 1 (by (try dsimp only); omega))
                have bb163 := wt_bd (wt_gf σ26 108 1)
                have g164 : 0 ≤ (wt_gf σ26 108 1).toInt ∧ (wt_gf σ26 108 1).toInt ≤ 500 := wt_R_gf rσ26 0 rfl
                have tt165 : (wt_gf σ26 108 1).toInt = (wt_gf r15 108 1).toInt := congrArg Int32.toInt (fσ26.1 108 1 (by (try dsimp only); omega))
                have bb166 := wt_bd (wt_gf σ 108 1)
                have g167 : 0 ≤ (wt_gf σ 108 1).toInt ∧ (wt_gf σ 108 1).toInt ≤ 500 := wt_R_gf r0 0 rfl
                exact ⟨(wt_fr.tr (wt_fr.tr (wt_fr.tr (wt_fr.tr (wt_fr.tr (wt_fr.tr (wt_fr.tr wt_fr.rf f6 (fun i k h => by (try dsimp only at h); exact Or.inl (by omega)) (fun i h => h.elim)) f17 (fun i k h => by (try dsimp only at h); rcases h with h | h | h | h | h | h; exact Or.inr (Or.inl (by omega)); exact Or.inr (Or.inr (Or.inl (by omega))); exact Or.inr (Or.inr (Or.inr (Or.inl (by omega)))); exact Or.inr (Or.inr (Or.inr (Or.inr (Or.inl (by omega))))); exact Or.inr (Or.inr (Or.inr (Or.inr (Or.inr (Or.inl (by omega)))))); exact Or.inr (Or.inr (Or.inr (Or.inr (Or.inr (Or.inr (Or.inl (by omega)))))))) (fun i h => h.elim)) fσ26 (fun i k h => by (try dsimp only at h); exact Or.inr (Or.inr (Or.inr (Or.inr (Or.inr (Or.inr (Or.inr (Or.inl (by omega))))))))) (fun i h => h.elim)) l51 (fun i k h => by (try dsimp only at h); rcases h with h | h | h; exact Or.inr (Or.inr (Or.inr (Or.inl (by omega)))); exact Or.inr (Or.inr (Or.inr (Or.inr (Or.inl (by omega))))); exact Or.inr (Or.inr (Or.inr (Or.inr (Or.inr (Or.inl (by omega))))))) (fun i h => by (try dsimp only at h); exact Or.inl (by omega))) f74 (fun i k h => by (try dsimp only at h); exact Or.inr (Or.inr (Or.inr (Or.inl (by omega))))) (fun i h => h.elim)) f109 (fun i k h => by (try dsimp only at h); rcases h with h | h; exact Or.inr (Or.inr (Or.inr (Or.inr (Or.inl (by omega))))); exact Or.inr (Or.inr (Or.inr (Or.inr (Or.inr (Or.inl (by omega))))))) (fun i h => h.elim)) f149 (fun i k h => by (try dsimp only at h); rcases h with h | h; exact Or.inr (Or.inr (Or.inr (Or.inr (Or.inr (Or.inr (Or.inr (Or.inl (by omega)))))))); exact Or.inr (Or.inr (Or.inr (Or.inr (Or.inr (Or.inr (Or.inr (Or.inr ((by omega)))))))))) (fun i h => by (try dsimp only at h); rcases h with h | h; exact Or.inr (Or.inl (by omega)); exact Or.inr (Or.inr ((by omega))))), ri150, (show ((y1.toInt ≠ 0 → (wt_gf r146.2 108 1).toInt = (wt_gf σ 108 1).toInt) ∧ (y1.toInt = 0 ∧ (wt_gf σ 108 0).toInt = 0 → (wt_gf r146.2 108 1).toInt = 0)) from by omega)⟩
            · skip
              have c168 := wt_nceq h105
              refine wt_T_if (fun h169 => ?_) (fun h169 => ?_)
              · skip
                have c170 := wt_ceq h169
                rw [wt_lm1] at c170
                have k171 : (2 : Int32).toInt = 2 := by decide
                refine wt_T_bi (wq_md_wrong n hn (2 : Int32) (wt_gf r72.2 108 4) r72.2 ri75 (by omega) (by omega)) (fun r172 h173 => ?_)
                obtain ⟨f174, ri175, pp176⟩ := h173
                have bb177 := wt_bd (wt_gf r172 108 5)
                have g178 : 0 ≤ (wt_gf r172 108 5).toInt ∧ (wt_gf r172 108 5).toInt ≤ 3 := wt_R_gf ri175 3 rfl
                unfold wp_md_text_B157
                refine wt_T_if (fun h179 => ?_) (fun h179 => ?_)
                · skip
                  have c180 := wt_ceq h179
                  refine wt_T_gd (wt_ix (by omega) (by omega)) ?_
                  obtain ⟨σ181, eσ181⟩ : ∃ z : wt_St, z = wt_sa r172 274 (Int32.toNatClampNeg z49.1) r100.1 := ⟨_, rfl⟩
                  rw [← eσ181]
                  have fσ181 := wt_fr_sa eσ181
                  have vσ181 := wt_ceq (wt_v_sa eσ181)
                  have bb182 := wt_tn z49.1
                  have rσ181 := wt_RI_in ri175 eσ181 11 rfl (by decide) (by decide) (show 0 ≤ (r100.1).toInt by omega) (show (r100.1).toInt ≤ 59 by omega)
                  obtain ⟨σ183, eσ183⟩ : ∃ z : wt_St, z = wt_sf σ181 108 4 ((wt_gf σ181 108 4) + r72.1) := ⟨_, rfl⟩
                  rw [← eσ183]
                  have fσ183 := wt_fr_sf eσ183
                  have vσ183 := wt_ceq (wt_v_sf eσ183)
                  have bb184 := wt_bd (wt_gf σ181 108 4)
                  have g185 : 0 ≤ (wt_gf σ181 108 4).toInt ∧ (wt_gf σ181 108 4).toInt ≤ 500 := wt_R_gf rσ181 2 rfl
                  have tt186 : (wt_gf σ181 108 4).toInt = (wt_gf r172 108 4).toInt := congrArg Int32.toInt (fσ181.1 108 4 (fun z => z))
                  have bb187 := wt_bd (wt_gf r172 108 4)
                  have g188 : 0 ≤ (wt_gf r172 108 4).toInt ∧ (wt_gf r172 108 4).toInt ≤ 500 := wt_R_gf ri175 2 rfl
                  have tt189 : (wt_gf r172 108 4).toInt = (wt_gf r72.2 108 4).toInt := congrArg Int32.toInt (f174.1 108 4 (by (try dsimp only); omega))
                  obtain ⟨j190, j190a, j190b⟩ := wt_addI (wt_gf σ181 108 4) r72.1
                  have rσ183 := wt_RI_fin rσ181 eσ183 2 rfl rfl (show 0 ≤ ((wt_gf σ181 108 4) + r72.1).toInt by omega) (show ((wt_gf σ181 108 4) + r72.1).toInt ≤ 500 by omega)
                  refine wt_T_bi (wq_md_blanks n hn σ183 rσ183) (fun r191 h192 => ?_)
                  obtain ⟨f193, ri194, pp195⟩ := h192
                  have bb196 := wt_bd (wt_gf σ183 108 4)
                  have g197 : 0 ≤ (wt_gf σ183 108 4).toInt ∧ (wt_gf σ183 108 4).toInt ≤ 500 := wt_R_gf rσ183 2 rfl
                  have bb198 := wt_bd (wt_gf r191 108 4)
                  have g199 : 0 ≤ (wt_gf r191 108 4).toInt ∧ (wt_gf r191 108 4).toInt ≤ 500 := wt_R_gf ri194 2 rfl
                  obtain ⟨j200, j200a, j200b⟩ := wt_addI z49.1 (1 : Int32)
                  refine hKK48 _ ⟨(wt_fr.tr (wt_fr.tr (wt_fr.tr (wt_fr.tr (wt_fr.tr (wt_fr.tr wt_fr.rf l51 (fun i k h => by (try dsimp only at h); rcases h with h | h | h; exact Or.inl (by omega); exact Or.inr (Or.inl (by omega)); exact Or.inr (Or.inr ((by omega)))) (fun i h => by (try dsimp only at h); exact (by omega))) f74 (fun i k h => by (try dsimp only at h); exact Or.inl (by omega)) (fun i h => h.elim)) f174 (fun i k h => by (try dsimp only at h); rcases h with h | h; exact Or.inr (Or.inl (by omega)); exact Or.inr (Or.inr ((by omega)))) (fun i h => h.elim)) fσ181 (fun i k h => h.elim) (fun i h => by (try dsimp only at h); exact (by omega))) fσ183 (fun i k h => by (try dsimp only at h); exact Or.inl (by omega)) (fun i h => h.elim)) f193 (fun i k h => by (try dsimp only at h); exact Or.inl (by omega)) (fun i h => h.elim)), (show 0 ≤ ((z49.1 + (1 : Int32))).toInt by omega), (show (z49.1 + (1 : Int32)).toInt ≤ 12 by omega), ri194⟩ ?_
                  show (13 - (z49.1 + (1 : Int32)).toInt).toNat < (13 - z49.1.toInt).toNat
                  omega
                · skip
                  have c201 := wt_nceq h179
                  have bb202 := wt_bd (wt_gf r172 108 39)
                  have g203 : 0 ≤ (wt_gf r172 108 39).toInt ∧ (wt_gf r172 108 39).toInt ≤ 8 := wt_R_gf ri175 7 rfl
                  have tt204 : (wt_gf r172 108 39).toInt = (wt_gf r72.2 108 39).toInt := congrArg Int32.toInt (f174.1 108 39 (by (try dsimp only); omega))
                  have bb205 := wt_bd (wt_gf r72.2 108 39)
                  have g206 : 0 ≤ (wt_gf r72.2 108 39).toInt ∧ (wt_gf r72.2 108 39).toInt ≤ 8 := wt_R_gf ri75 7 rfl
                  have tt207 : (wt_gf r72.2 108 39).toInt = (wt_gf z49.2 108 39).toInt := congrArg Int32.toInt (f74.1 108 39 (by (try dsimp only); omega))
                  have bb208 := wt_bd (wt_gf z49.2 108 39)
                  have g209 : 0 ≤ (wt_gf z49.2 108 39).toInt ∧ (wt_gf z49.2 108 39).toInt ≤ 8 := wt_R_gf l54 7 rfl
                  have tt210 : (wt_gf z49.2 108 39).toInt = (wt_gf σ26 108 39).toInt := congrArg Int32.toInt (l51.1 108 39 (by (try dsimp only); omega))
                  refine wt_T.imp (wq_md_text_B195 n hn z49.1 r172 ri175 (by omega) (by omega) (by omega)) (fun r211 h212 => ?_)
                  have bb213 := wt_bd r211.1
                  obtain ⟨f214, ri215⟩ := h212
                  have bb216 := wt_bd (wt_gf r211.2 108 1)
                  have g217 : 0 ≤ (wt_gf r211.2 108 1).toInt ∧ (wt_gf r211.2 108 1).toInt ≤ 500 := wt_R_gf ri215 0 rfl
                  have tt218 : (wt_gf r211.2 108 1).toInt = (wt_gf r172 108 1).toInt := congrArg Int32.toInt (f214.1 108 1 (by (try dsimp only); omega))
                  have bb219 := wt_bd (wt_gf r172 108 1)
                  have g220 : 0 ≤ (wt_gf r172 108 1).toInt ∧ (wt_gf r172 108 1).toInt ≤ 500 := wt_R_gf ri175 0 rfl
                  have tt221 : (wt_gf r172 108 1).toInt = (wt_gf r72.2 108 1).toInt := congrArg Int32.toInt (f174.1 108 1 (by (try dsimp only); omega))
                  have bb222 := wt_bd (wt_gf r72.2 108 1)
                  have g223 : 0 ≤ (wt_gf r72.2 108 1).toInt ∧ (wt_gf r72.2 108 1).toInt ≤ 500 := wt_R_gf ri75 0 rfl
                  have tt224 : (wt_gf r72.2 108 1).toInt = (wt_gf z49.2 108 1).toInt := congrArg Int32.toInt (f74.1 108 1 (by (try dsimp only); omega))
                  have bb225 := wt_bd (wt_gf z49.2 108 1)
                  have g226 : 0 ≤ (wt_gf z49.2 108 1).toInt ∧ (wt_gf z49.2 108 1).toInt ≤ 500 := wt_R_gf l54 0 rfl
                  have tt227 : (wt_gf z49.2 108 1).toInt = (wt_gf σ26 108 1).toInt := congrArg Int32.toInt (l51.1 108 1 (by (try dsimp only); omega))
                  have bb228 := wt_bd (wt_gf σ26 108 1)
                  have g229 : 0 ≤ (wt_gf σ26 108 1).toInt ∧ (wt_gf σ26 108 1).toInt ≤ 500 := wt_R_gf rσ26 0 rfl
                  have tt230 : (wt_gf σ26 108 1).toInt = (wt_gf r15 108 1).toInt := congrArg Int32.toInt (fσ26.1 108 1 (by (try dsimp only); omega))
                  have bb231 := wt_bd (wt_gf σ 108 1)
                  have g232 : 0 ≤ (wt_gf σ 108 1).toInt ∧ (wt_gf σ 108 1).toInt ≤ 500 := wt_R_gf r0 0 rfl
                  exact ⟨(wt_fr.tr (wt_fr.tr (wt_fr.tr (wt_fr.tr (wt_fr.tr (wt_fr.tr (wt_fr.tr wt_fr.rf f6 (fun i k h => by (try dsimp only at h); exact Or.inl (by omega)) (fun i h => h.elim)) f17 (fun i k h => by (try dsimp only at h); rcases h with h | h | h | h | h | h; exact Or.inr (Or.inl (by omega)); exact Or.inr (Or.inr (Or.inl (by omega))); exact Or.inr (Or.inr (Or.inr (Or.inl (by omega)))); exact Or.inr (Or.inr (Or.inr (Or.inr (Or.inl (by omega))))); exact Or.inr (Or.inr (Or.inr (Or.inr (Or.inr (Or.inl (by omega)))))); exact Or.inr (Or.inr (Or.inr (Or.inr (Or.inr (Or.inr (Or.inl (by omega)))))))) (fun i h => h.elim)) fσ26 (fun i k h => by (try dsimp only at h); exact Or.inr (Or.inr (Or.inr (Or.inr (Or.inr (Or.inr (Or.inr (Or.inl (by omega))))))))) (fun i h => h.elim)) l51 (fun i k h => by (try dsimp only at h); rcases h with h | h | h; exact Or.inr (Or.inr (Or.inr (Or.inl (by omega)))); exact Or.inr (Or.inr (Or.inr (Or.inr (Or.inl (by omega))))); exact Or.inr (Or.inr (Or.inr (Or.inr (Or.inr (Or.inl (by omega))))))) (fun i h => by (try dsimp only at h); exact Or.inl (by omega))) f74 (fun i k h => by (try dsimp only at h); exact Or.inr (Or.inr (Or.inr (Or.inl (by omega))))) (fun i h => h.elim)) f174 (fun i k h => by (try dsimp only at h); rcases h with h | h; exact Or.inr (Or.inr (Or.inr (Or.inr (Or.inl (by omega))))); exact Or.inr (Or.inr (Or.inr (Or.inr (Or.inr (Or.inl (by omega))))))) (fun i h => h.elim)) f214 (fun i k h => by (try dsimp only at h); rcases h with h | h; exact Or.inr (Or.inr (Or.inr (Or.inr (Or.inr (Or.inr (Or.inr (Or.inl (by omega)))))))); exact Or.inr (Or.inr (Or.inr (Or.inr (Or.inr (Or.inr (Or.inr (Or.inr ((by omega)))))))))) (fun i h => by (try dsimp only at h); rcases h with h | h; exact Or.inr (Or.inl (by omega)); exact Or.inr (Or.inr ((by omega))))), ri215, (show ((y1.toInt ≠ 0 → (wt_gf r211.2 108 1).toInt = (wt_gf σ 108 1).toInt) ∧ (y1.toInt = 0 ∧ (wt_gf σ 108 0).toInt = 0 → (wt_gf r211.2 108 1).toInt = 0)) from by omega)⟩
              · skip
                have c233 := wt_nceq h169
                rw [wt_lm1] at c233
                have k234 : (12 : Int32).toInt = 12 := by decide
                refine wt_T_if (fun h235 => ?_) (fun h235 => ?_)
                · skip
                  have c236 := wt_ceq h235
                  have k237 : (3 : Int32).toInt = 3 := by decide
                  refine wt_T_bi (wq_md_wrong n hn (3 : Int32) (wt_gf r72.2 108 4) r72.2 ri75 (by omega) (by omega)) (fun r238 h239 => ?_)
                  obtain ⟨f240, ri241, pp242⟩ := h239
                  have bb243 := wt_bd (wt_gf r238 108 5)
                  have g244 : 0 ≤ (wt_gf r238 108 5).toInt ∧ (wt_gf r238 108 5).toInt ≤ 3 := wt_R_gf ri241 3 rfl
                  unfold wp_md_text_B157
                  refine wt_T_if (fun h245 => ?_) (fun h245 => ?_)
                  · skip
                    have c246 := wt_ceq h245
                    refine wt_T_gd (wt_ix (by omega) (by omega)) ?_
                    obtain ⟨σ247, eσ247⟩ : ∃ z : wt_St, z = wt_sa r238 274 (Int32.toNatClampNeg z49.1) r100.1 := ⟨_, rfl⟩
                    rw [← eσ247]
                    have fσ247 := wt_fr_sa eσ247
                    have vσ247 := wt_ceq (wt_v_sa eσ247)
                    have bb248 := wt_tn z49.1
                    have rσ247 := wt_RI_in ri241 eσ247 11 rfl (by decide) (by decide) (show 0 ≤ (r100.1).toInt by omega) (show (r100.1).toInt ≤ 59 by omega)
                    obtain ⟨σ249, eσ249⟩ : ∃ z : wt_St, z = wt_sf σ247 108 4 ((wt_gf σ247 108 4) + r72.1) := ⟨_, rfl⟩
                    rw [← eσ249]
                    have fσ249 := wt_fr_sf eσ249
                    have vσ249 := wt_ceq (wt_v_sf eσ249)
                    have bb250 := wt_bd (wt_gf σ247 108 4)
                    have g251 : 0 ≤ (wt_gf σ247 108 4).toInt ∧ (wt_gf σ247 108 4).toInt ≤ 500 := wt_R_gf rσ247 2 rfl
                    have tt252 : (wt_gf σ247 108 4).toInt = (wt_gf r238 108 4).toInt := congrArg Int32.toInt (fσ247.1 108 4 (fun z => z))
                    have bb253 := wt_bd (wt_gf r238 108 4)
                    have g254 : 0 ≤ (wt_gf r238 108 4).toInt ∧ (wt_gf r238 108 4).toInt ≤ 500 := wt_R_gf ri241 2 rfl
                    have tt255 : (wt_gf r238 108 4).toInt = (wt_gf r72.2 108 4).toInt := congrArg Int32.toInt (f240.1 108 4 (by (try dsimp only); omega))
                    obtain ⟨j256, j256a, j256b⟩ := wt_addI (wt_gf σ247 108 4) r72.1
                    have rσ249 := wt_RI_fin rσ247 eσ249 2 rfl rfl (show 0 ≤ ((wt_gf σ247 108 4) + r72.1).toInt by omega) (show ((wt_gf σ247 108 4) + r72.1).toInt ≤ 500 by omega)
                    refine wt_T_bi (wq_md_blanks n hn σ249 rσ249) (fun r257 h258 => ?_)
                    obtain ⟨f259, ri260, pp261⟩ := h258
                    have bb262 := wt_bd (wt_gf σ249 108 4)
                    have g263 : 0 ≤ (wt_gf σ249 108 4).toInt ∧ (wt_gf σ249 108 4).toInt ≤ 500 := wt_R_gf rσ249 2 rfl
                    have bb264 := wt_bd (wt_gf r257 108 4)
                    have g265 : 0 ≤ (wt_gf r257 108 4).toInt ∧ (wt_gf r257 108 4).toInt ≤ 500 := wt_R_gf ri260 2 rfl
                    obtain ⟨j266, j266a, j266b⟩ := wt_addI z49.1 (1 : Int32)
                    refine hKK48 _ ⟨(wt_fr.tr (wt_fr.tr (wt_fr.tr (wt_fr.tr (wt_fr.tr (wt_fr.tr wt_fr.rf l51 (fun i k h => by (try dsimp only at h); rcases h with h | h | h; exact Or.inl (by omega); exact Or.inr (Or.inl (by omega)); exact Or.inr (Or.inr ((by omega)))) (fun i h => by (try dsimp only at h); exact (by omega))) f74 (fun i k h => by (try dsimp only at h); exact Or.inl (by omega)) (fun i h => h.elim)) f240 (fun i k h => by (try dsimp only at h); rcases h with h | h; exact Or.inr (Or.inl (by omega)); exact Or.inr (Or.inr ((by omega)))) (fun i h => h.elim)) fσ247 (fun i k h => h.elim) (fun i h => by (try dsimp only at h); exact (by omega))) fσ249 (fun i k h => by (try dsimp only at h); exact Or.inl (by omega)) (fun i h => h.elim)) f259 (fun i k h => by (try dsimp only at h); exact Or.inl (by omega)) (fun i h => h.elim)), (show 0 ≤ ((z49.1 + (1 : Int32))).toInt by omega), (show (z49.1 + (1 : Int32)).toInt ≤ 12 by omega), ri260⟩ ?_
                    show (13 - (z49.1 + (1 : Int32)).toInt).toNat < (13 - z49.1.toInt).toNat
                    omega
                  · skip
                    have c267 := wt_nceq h245
                    have bb268 := wt_bd (wt_gf r238 108 39)
                    have g269 : 0 ≤ (wt_gf r238 108 39).toInt ∧ (wt_gf r238 108 39).toInt ≤ 8 := wt_R_gf ri241 7 rfl
                    have tt270 : (wt_gf r238 108 39).toInt = (wt_gf r72.2 108 39).toInt := congrArg Int32.toInt (f240.1 108 39 (by (try dsimp only); omega))
                    have bb271 := wt_bd (wt_gf r72.2 108 39)
                    have g272 : 0 ≤ (wt_gf r72.2 108 39).toInt ∧ (wt_gf r72.2 108 39).toInt ≤ 8 := wt_R_gf ri75 7 rfl
                    have tt273 : (wt_gf r72.2 108 39).toInt = (wt_gf z49.2 108 39).toInt := congrArg Int32.toInt (f74.1 108 39 (by (try dsimp only); omega))
                    have bb274 := wt_bd (wt_gf z49.2 108 39)
                    have g275 : 0 ≤ (wt_gf z49.2 108 39).toInt ∧ (wt_gf z49.2 108 39).toInt ≤ 8 := wt_R_gf l54 7 rfl
                    have tt276 : (wt_gf z49.2 108 39).toInt = (wt_gf σ26 108 39).toInt := congrArg Int32.toInt (l51.1 108 39 (by (try dsimp only); omega))
                    refine wt_T.imp (wq_md_text_B195 n hn z49.1 r238 ri241 (by omega) (by omega) (by omega)) (fun r277 h278 => ?_)
                    have bb279 := wt_bd r277.1
                    obtain ⟨f280, ri281⟩ := h278
                    have bb282 := wt_bd (wt_gf r277.2 108 1)
                    have g283 : 0 ≤ (wt_gf r277.2 108 1).toInt ∧ (wt_gf r277.2 108 1).toInt ≤ 500 := wt_R_gf ri281 0 rfl
                    have tt284 : (wt_gf r277.2 108 1).toInt = (wt_gf r238 108 1).toInt := congrArg Int32.toInt (f280.1 108 1 (by (try dsimp only); omega))
                    have bb285 := wt_bd (wt_gf r238 108 1)
                    have g286 : 0 ≤ (wt_gf r238 108 1).toInt ∧ (wt_gf r238 108 1).toInt ≤ 500 := wt_R_gf ri241 0 rfl
                    have tt287 : (wt_gf r238 108 1).toInt = (wt_gf r72.2 108 1).toInt := congrArg Int32.toInt (f240.1 108 1 (by (try dsimp only); omega))
                    have bb288 := wt_bd (wt_gf r72.2 108 1)
                    have g289 : 0 ≤ (wt_gf r72.2 108 1).toInt ∧ (wt_gf r72.2 108 1).toInt ≤ 500 := wt_R_gf ri75 0 rfl
                    have tt290 : (wt_gf r72.2 108 1).toInt = (wt_gf z49.2 108 1).toInt := congrArg Int32.toInt (f74.1 108 1 (by (try dsimp only); omega))
                    have bb291 := wt_bd (wt_gf z49.2 108 1)
                    have g292 : 0 ≤ (wt_gf z49.2 108 1).toInt ∧ (wt_gf z49.2 108 1).toInt ≤ 500 := wt_R_gf l54 0 rfl
                    have tt293 : (wt_gf z49.2 108 1).toInt = (wt_gf σ26 108 1).toInt := congrArg Int32.toInt (l51.1 108 1 (by (try dsimp only); omega))
                    have bb294 := wt_bd (wt_gf σ26 108 1)
                    have g295 : 0 ≤ (wt_gf σ26 108 1).toInt ∧ (wt_gf σ26 108 1).toInt ≤ 500 := wt_R_gf rσ26 0 rfl
                    have tt296 : (wt_gf σ26 108 1).toInt = (wt_gf r15 108 1).toInt := congrArg Int32.toInt (fσ26.1 108 1 (by (try dsimp only); omega))
                    have bb297 := wt_bd (wt_gf σ 108 1)
                    have g298 : 0 ≤ (wt_gf σ 108 1).toInt ∧ (wt_gf σ 108 1).toInt ≤ 500 := wt_R_gf r0 0 rfl
                    exact ⟨(wt_fr.tr (wt_fr.tr (wt_fr.tr (wt_fr.tr (wt_fr.tr (wt_fr.tr (wt_fr.tr wt_fr.rf f6 (fun i k h => by (try dsimp only at h); exact Or.inl (by omega)) (fun i h => h.elim)) f17 (fun i k h => by (try dsimp only at h); rcases h with h | h | h | h | h | h; exact Or.inr (Or.inl (by omega)); exact Or.inr (Or.inr (Or.inl (by omega))); exact Or.inr (Or.inr (Or.inr (Or.inl (by omega)))); exact Or.inr (Or.inr (Or.inr (Or.inr (Or.inl (by omega))))); exact Or.inr (Or.inr (Or.inr (Or.inr (Or.inr (Or.inl (by omega)))))); exact Or.inr (Or.inr (Or.inr (Or.inr (Or.inr (Or.inr (Or.inl (by omega)))))))) (fun i h => h.elim)) fσ26 (fun i k h => by (try dsimp only at h); exact Or.inr (Or.inr (Or.inr (Or.inr (Or.inr (Or.inr (Or.inr (Or.inl (by omega))))))))) (fun i h => h.elim)) l51 (fun i k h => by (try dsimp only at h); rcases h with h | h | h; exact Or.inr (Or.inr (Or.inr (Or.inl (by omega)))); exact Or.inr (Or.inr (Or.inr (Or.inr (Or.inl (by omega))))); exact Or.inr (Or.inr (Or.inr (Or.inr (Or.inr (Or.inl (by omega))))))) (fun i h => by (try dsimp only at h); exact Or.inl (by omega))) f74 (fun i k h => by (try dsimp only at h); exact Or.inr (Or.inr (Or.inr (Or.inl (by omega))))) (fun i h => h.elim)) f240 (fun i k h => by (try dsimp only at h); rcases h with h | h; exact Or.inr (Or.inr (Or.inr (Or.inr (Or.inl (by omega))))); exact Or.inr (Or.inr (Or.inr (Or.inr (Or.inr (Or.inl (by omega))))))) (fun i h => h.elim)) f280 (fun i k h => by (try dsimp only at h); rcases h with h | h; exact Or.inr (Or.inr (Or.inr (Or.inr (Or.inr (Or.inr (Or.inr (Or.inl (by omega)))))))); exact Or.inr (Or.inr (Or.inr (Or.inr (Or.inr (Or.inr (Or.inr (Or.inr ((by omega)))))))))) (fun i h => by (try dsimp only at h); rcases h with h | h; exact Or.inr (Or.inl (by omega)); exact Or.inr (Or.inr ((by omega))))), ri281, (show ((y1.toInt ≠ 0 → (wt_gf r277.2 108 1).toInt = (wt_gf σ 108 1).toInt) ∧ (y1.toInt = 0 ∧ (wt_gf σ 108 0).toInt = 0 → (wt_gf r277.2 108 1).toInt = 0)) from by omega)⟩
                · skip
                  have c299 := wt_nceq h235
                  unfold wp_md_text_B157
                  have bb300 := wt_bd (wt_gf r72.2 108 5)
                  have g301 : 0 ≤ (wt_gf r72.2 108 5).toInt ∧ (wt_gf r72.2 108 5).toInt ≤ 3 := wt_R_gf ri75 3 rfl
                  have tt302 : (wt_gf r72.2 108 5).toInt = (wt_gf z49.2 108 5).toInt := congrArg Int32.toInt (f74.1 108 5 (by (try dsimp only); omega))
                  refine wt_T_if (fun h303 => ?_) (fun h303 => ?_)
                  · skip
                    have c304 := wt_ceq h303
                    refine wt_T_gd (wt_ix (by omega) (by omega)) ?_
                    obtain ⟨σ305, eσ305⟩ : ∃ z : wt_St, z = wt_sa r72.2 274 (Int32.toNatClampNeg z49.1) r100.1 := ⟨_, rfl⟩
                    rw [← eσ305]
                    have fσ305 := wt_fr_sa eσ305
                    have vσ305 := wt_ceq (wt_v_sa eσ305)
                    have bb306 := wt_tn z49.1
                    have rσ305 := wt_RI_in ri75 eσ305 11 rfl (by decide) (by decide) (show 0 ≤ (r100.1).toInt by omega) (show (r100.1).toInt ≤ 59 by omega)
                    obtain ⟨σ307, eσ307⟩ : ∃ z : wt_St, z = wt_sf σ305 108 4 ((wt_gf σ305 108 4) + r72.1) := ⟨_, rfl⟩
                    rw [← eσ307]
                    have fσ307 := wt_fr_sf eσ307
                    have vσ307 := wt_ceq (wt_v_sf eσ307)
                    have bb308 := wt_bd (wt_gf σ305 108 4)
                    have g309 : 0 ≤ (wt_gf σ305 108 4).toInt ∧ (wt_gf σ305 108 4).toInt ≤ 500 := wt_R_gf rσ305 2 rfl
                    have tt310 : (wt_gf σ305 108 4).toInt = (wt_gf r72.2 108 4).toInt := congrArg Int32.toInt (fσ305.1 108 4 (fun z => z))
                    obtain ⟨j311, j311a, j311b⟩ := wt_addI (wt_gf σ305 108 4) r72.1
                    have rσ307 := wt_RI_fin rσ305 eσ307 2 rfl rfl (show 0 ≤ ((wt_gf σ305 108 4) + r72.1).toInt by omega) (show ((wt_gf σ305 108 4) + r72.1).toInt ≤ 500 by omega)
                    refine wt_T_bi (wq_md_blanks n hn σ307 rσ307) (fun r312 h313 => ?_)
                    obtain ⟨f314, ri315, pp316⟩ := h313
                    have bb317 := wt_bd (wt_gf σ307 108 4)
                    have g318 : 0 ≤ (wt_gf σ307 108 4).toInt ∧ (wt_gf σ307 108 4).toInt ≤ 500 := wt_R_gf rσ307 2 rfl
                    have bb319 := wt_bd (wt_gf r312 108 4)
                    have g320 : 0 ≤ (wt_gf r312 108 4).toInt ∧ (wt_gf r312 108 4).toInt ≤ 500 := wt_R_gf ri315 2 rfl
                    obtain ⟨j321, j321a, j321b⟩ := wt_addI z49.1 (1 : Int32)
                    refine hKK48 _ ⟨(wt_fr.tr (wt_fr.tr (wt_fr.tr (wt_fr.tr (wt_fr.tr wt_fr.rf l51 (fun i k h => by (try dsimp only at h); rcases h with h | h | h; exact Or.inl (by omega); exact Or.inr (Or.inl (by omega)); exact Or.inr (Or.inr ((by omega)))) (fun i h => by (try dsimp only at h); exact (by omega))) f74 (fun i k h => by (try dsimp only at h); exact Or.inl (by omega)) (fun i h => h.elim)) fσ305 (fun i k h => h.elim) (fun i h => by (try dsimp only at h); exact (by omega))) fσ307 (fun i k h => by (try dsimp only at h); exact Or.inl (by omega)) (fun i h => h.elim)) f314 (fun i k h => by (try dsimp only at h); exact Or.inl (by omega)) (fun i h => h.elim)), (show 0 ≤ ((z49.1 + (1 : Int32))).toInt by omega), (show (z49.1 + (1 : Int32)).toInt ≤ 12 by omega), ri315⟩ ?_
                    show (13 - (z49.1 + (1 : Int32)).toInt).toNat < (13 - z49.1.toInt).toNat
                    omega
                  · skip
                    have c322 := wt_nceq h303
                    have bb323 := wt_bd (wt_gf r72.2 108 39)
                    have g324 : 0 ≤ (wt_gf r72.2 108 39).toInt ∧ (wt_gf r72.2 108 39).toInt ≤ 8 := wt_R_gf ri75 7 rfl
                    have tt325 : (wt_gf r72.2 108 39).toInt = (wt_gf z49.2 108 39).toInt := congrArg Int32.toInt (f74.1 108 39 (by (try dsimp only); omega))
                    have bb326 := wt_bd (wt_gf z49.2 108 39)
                    have g327 : 0 ≤ (wt_gf z49.2 108 39).toInt ∧ (wt_gf z49.2 108 39).toInt ≤ 8 := wt_R_gf l54 7 rfl
                    have tt328 : (wt_gf z49.2 108 39).toInt = (wt_gf σ26 108 39).toInt := congrArg Int32.toInt (l51.1 108 39 (by (try dsimp only); omega))
                    refine wt_T.imp (wq_md_text_B195 n hn z49.1 r72.2 ri75 (by omega) (by omega) (by omega)) (fun r329 h330 => ?_)
                    have bb331 := wt_bd r329.1
                    obtain ⟨f332, ri333⟩ := h330
                    have bb334 := wt_bd (wt_gf r329.2 108 1)
                    have g335 : 0 ≤ (wt_gf r329.2 108 1).toInt ∧ (wt_gf r329.2 108 1).toInt ≤ 500 := wt_R_gf ri333 0 rfl
                    have tt336 : (wt_gf r329.2 108 1).toInt = (wt_gf r72.2 108 1).toInt := congrArg Int32.toInt (f332.1 108 1 (by (try dsimp only); omega))
                    have bb337 := wt_bd (wt_gf r72.2 108 1)
                    have g338 : 0 ≤ (wt_gf r72.2 108 1).toInt ∧ (wt_gf r72.2 108 1).toInt ≤ 500 := wt_R_gf ri75 0 rfl
                    have tt339 : (wt_gf r72.2 108 1).toInt = (wt_gf z49.2 108 1).toInt := congrArg Int32.toInt (f74.1 108 1 (by (try dsimp only); omega))
                    have bb340 := wt_bd (wt_gf z49.2 108 1)
                    have g341 : 0 ≤ (wt_gf z49.2 108 1).toInt ∧ (wt_gf z49.2 108 1).toInt ≤ 500 := wt_R_gf l54 0 rfl
                    have tt342 : (wt_gf z49.2 108 1).toInt = (wt_gf σ26 108 1).toInt := congrArg Int32.toInt (l51.1 108 1 (by (try dsimp only); omega))
                    have bb343 := wt_bd (wt_gf σ26 108 1)
                    have g344 : 0 ≤ (wt_gf σ26 108 1).toInt ∧ (wt_gf σ26 108 1).toInt ≤ 500 := wt_R_gf rσ26 0 rfl
                    have tt345 : (wt_gf σ26 108 1).toInt = (wt_gf r15 108 1).toInt := congrArg Int32.toInt (fσ26.1 108 1 (by (try dsimp only); omega))
                    have bb346 := wt_bd (wt_gf σ 108 1)
                    have g347 : 0 ≤ (wt_gf σ 108 1).toInt ∧ (wt_gf σ 108 1).toInt ≤ 500 := wt_R_gf r0 0 rfl
                    exact ⟨(wt_fr.tr (wt_fr.tr (wt_fr.tr (wt_fr.tr (wt_fr.tr (wt_fr.tr wt_fr.rf f6 (fun i k h => by (try dsimp only at h); exact Or.inl (by omega)) (fun i h => h.elim)) f17 (fun i k h => by (try dsimp only at h); rcases h with h | h | h | h | h | h; exact Or.inr (Or.inl (by omega)); exact Or.inr (Or.inr (Or.inl (by omega))); exact Or.inr (Or.inr (Or.inr (Or.inl (by omega)))); exact Or.inr (Or.inr (Or.inr (Or.inr (Or.inl (by omega))))); exact Or.inr (Or.inr (Or.inr (Or.inr (Or.inr (Or.inl (by omega)))))); exact Or.inr (Or.inr (Or.inr (Or.inr (Or.inr (Or.inr (Or.inl (by omega)))))))) (fun i h => h.elim)) fσ26 (fun i k h => by (try dsimp only at h); exact Or.inr (Or.inr (Or.inr (Or.inr (Or.inr (Or.inr (Or.inr (Or.inl (by omega))))))))) (fun i h => h.elim)) l51 (fun i k h => by (try dsimp only at h); rcases h with h | h | h; exact Or.inr (Or.inr (Or.inr (Or.inl (by omega)))); exact Or.inr (Or.inr (Or.inr (Or.inr (Or.inl (by omega))))); exact Or.inr (Or.inr (Or.inr (Or.inr (Or.inr (Or.inl (by omega))))))) (fun i h => by (try dsimp only at h); exact Or.inl (by omega))) f74 (fun i k h => by (try dsimp only at h); exact Or.inr (Or.inr (Or.inr (Or.inl (by omega))))) (fun i h => h.elim)) f332 (fun i k h => by (try dsimp only at h); rcases h with h | h; exact Or.inr (Or.inr (Or.inr (Or.inr (Or.inr (Or.inr (Or.inr (Or.inl (by omega)))))))); exact Or.inr (Or.inr (Or.inr (Or.inr (Or.inr (Or.inr (Or.inr (Or.inr ((by omega)))))))))) (fun i h => by (try dsimp only at h); rcases h with h | h; exact Or.inr (Or.inl (by omega)); exact Or.inr (Or.inr ((by omega))))), ri333, (show ((y1.toInt ≠ 0 → (wt_gf r329.2 108 1).toInt = (wt_gf σ 108 1).toInt) ∧ (y1.toInt = 0 ∧ (wt_gf σ 108 0).toInt = 0 → (wt_gf r329.2 108 1).toInt = 0)) from by omega)⟩
          · skip
            have c348 := wt_ncl h70
            refine wt_T_if (fun h349 => ?_) (fun h349 => ?_)
            · skip
              have c350 := wt_ceq h349
              unfold wp_md_text_B84
              refine wt_T_bi (wq_md_lettersHere n hn z49.2 l54) (fun r351 h352 => ?_)
              obtain ⟨f353, ri354, pp355⟩ := h352
              have bb356 := wt_bd r351.1
              have bb357 := wt_bd (wt_gf r351.2 108 4)
              have g358 : 0 ≤ (wt_gf r351.2 108 4).toInt ∧ (wt_gf r351.2 108 4).toInt ≤ 500 := wt_R_gf ri354 2 rfl
              have bb359 := wt_bd (wt_gf r351.2 108 2)
              have g360 : 0 ≤ (wt_gf r351.2 108 2).toInt ∧ (wt_gf r351.2 108 2).toInt ≤ 500 := wt_R_gf ri354 1 rfl
              have tt361 : (wt_gf r351.2 108 2).toInt = (wt_gf z49.2 108 2).toInt := congrArg Int32.toInt (f353.1 108 2 (by (try dsimp only); omega))
              have bb362 := wt_bd (wt_gf r351.2 108 28)
              have g363 : 0 ≤ (wt_gf r351.2 108 28).toInt ∧ (wt_gf r351.2 108 28).toInt ≤ 60 := wt_R_gf ri354 6 rfl
              have tt364 : (wt_gf r351.2 108 28).toInt = (wt_gf z49.2 108 28).toInt := congrArg Int32.toInt (f353.1 108 28 (by (try dsimp only); omega))
              have bb365 := wt_bd (wt_gf z49.2 108 28)
              have g366 : 0 ≤ (wt_gf z49.2 108 28).toInt ∧ (wt_gf z49.2 108 28).toInt ≤ 60 := wt_R_gf l54 6 rfl
              have tt367 : (wt_gf z49.2 108 28).toInt = (wt_gf σ26 108 28).toInt := congrArg Int32.toInt (l51.1 108 28 (by (try dsimp only); omega))
              have bb368 := wt_bd (wt_gf σ26 108 28)
              have g369 : 0 ≤ (wt_gf σ26 108 28).toInt ∧ (wt_gf σ26 108 28).toInt ≤ 60 := wt_R_gf rσ26 6 rfl
              have tt370 : (wt_gf σ26 108 28).toInt = (wt_gf r15 108 28).toInt := congrArg Int32.toInt (fσ26.1 108 28 (by (try dsimp only); omega))
              have bb371 := wt_bd (wt_gf r15 108 28)
              have g372 : 0 ≤ (wt_gf r15 108 28).toInt ∧ (wt_gf r15 108 28).toInt ≤ 60 := wt_R_gf ri18 6 rfl
              have tt373 : (wt_gf r15 108 28).toInt = (wt_gf r4.2 108 28).toInt := congrArg Int32.toInt (f17.1 108 28 (by (try dsimp only); omega))
              have bb374 := wt_bd (wt_gf r4.2 108 28)
              have g375 : 0 ≤ (wt_gf r4.2 108 28).toInt ∧ (wt_gf r4.2 108 28).toInt ≤ 60 := wt_R_gf ri7 6 rfl
              have tt376 : (wt_gf r4.2 108 28).toInt = (wt_gf σ 108 28).toInt := congrArg Int32.toInt (f6.1 108 28 (by (try dsimp only); omega))
              have bb377 := wt_bd (wt_gf σ 108 28)
              have g378 : 0 ≤ (wt_gf σ 108 28).toInt ∧ (wt_gf σ 108 28).toInt ≤ 60 := wt_R_gf r0 6 rfl
              refine wt_T_bi (wq_md_wordOf_192_126 n hn r351.1 (wt_gf r351.2 108 28) r351.2 ri354 (by omega)) (fun r379 h380 => ?_)
              obtain ⟨e381, pp382⟩ := h380
              have bb383 := wt_bd r379.1
              rw [e381]
              refine wt_T_if (fun h384 => ?_) (fun h384 => ?_)
              · skip
                have c385 := wt_ceq h384
                refine wt_T_bi (wq_md_wrong n hn (1 : Int32) (wt_gf r351.2 108 4) r351.2 ri354 (by omega) (by omega)) (fun r386 h387 => ?_)
                obtain ⟨f388, ri389, pp390⟩ := h387
                have bb391 := wt_bd (wt_gf r386 108 5)
                have g392 : 0 ≤ (wt_gf r386 108 5).toInt ∧ (wt_gf r386 108 5).toInt ≤ 3 := wt_R_gf ri389 3 rfl
                unfold wp_md_text_B157
                refine wt_T_if (fun h393 => ?_) (fun h393 => ?_)
                · skip
                  have c394 := wt_ceq h393
                  refine wt_T_gd (wt_ix (by omega) (by omega)) ?_
                  obtain ⟨σ395, eσ395⟩ : ∃ z : wt_St, z = wt_sa r386 274 (Int32.toNatClampNeg z49.1) r379.1 := ⟨_, rfl⟩
                  rw [← eσ395]
                  have fσ395 := wt_fr_sa eσ395
                  have vσ395 := wt_ceq (wt_v_sa eσ395)
                  have bb396 := wt_tn z49.1
                  have rσ395 := wt_RI_in ri389 eσ395 11 rfl (by decide) (by decide) (show 0 ≤ (r379.1).toInt by omega) (show (r379.1).toInt ≤ 59 by omega)
                  obtain ⟨σ397, eσ397⟩ : ∃ z : wt_St, z = wt_sf σ395 108 4 ((wt_gf σ395 108 4) + r351.1) := ⟨_, rfl⟩
                  rw [← eσ397]
                  have fσ397 := wt_fr_sf eσ397
                  have vσ397 := wt_ceq (wt_v_sf eσ397)
                  have bb398 := wt_bd (wt_gf σ395 108 4)
                  have g399 : 0 ≤ (wt_gf σ395 108 4).toInt ∧ (wt_gf σ395 108 4).toInt ≤ 500 := wt_R_gf rσ395 2 rfl
                  have tt400 : (wt_gf σ395 108 4).toInt = (wt_gf r386 108 4).toInt := congrArg Int32.toInt (fσ395.1 108 4 (fun z => z))
                  have bb401 := wt_bd (wt_gf r386 108 4)
                  have g402 : 0 ≤ (wt_gf r386 108 4).toInt ∧ (wt_gf r386 108 4).toInt ≤ 500 := wt_R_gf ri389 2 rfl
                  have tt403 : (wt_gf r386 108 4).toInt = (wt_gf r351.2 108 4).toInt := congrArg Int32.toInt (f388.1 108 4 (by (try dsimp only); omega))
                  obtain ⟨j404, j404a, j404b⟩ := wt_addI (wt_gf σ395 108 4) r351.1
                  have rσ397 := wt_RI_fin rσ395 eσ397 2 rfl rfl (show 0 ≤ ((wt_gf σ395 108 4) + r351.1).toInt by omega) (show ((wt_gf σ395 108 4) + r351.1).toInt ≤ 500 by omega)
                  refine wt_T_bi (wq_md_blanks n hn σ397 rσ397) (fun r405 h406 => ?_)
                  obtain ⟨f407, ri408, pp409⟩ := h406
                  have bb410 := wt_bd (wt_gf σ397 108 4)
                  have g411 : 0 ≤ (wt_gf σ397 108 4).toInt ∧ (wt_gf σ397 108 4).toInt ≤ 500 := wt_R_gf rσ397 2 rfl
                  have bb412 := wt_bd (wt_gf r405 108 4)
                  have g413 : 0 ≤ (wt_gf r405 108 4).toInt ∧ (wt_gf r405 108 4).toInt ≤ 500 := wt_R_gf ri408 2 rfl
                  obtain ⟨j414, j414a, j414b⟩ := wt_addI z49.1 (1 : Int32)
                  refine hKK48 _ ⟨(wt_fr.tr (wt_fr.tr (wt_fr.tr (wt_fr.tr (wt_fr.tr (wt_fr.tr wt_fr.rf l51 (fun i k h => by (try dsimp only at h); rcases h with h | h | h; exact Or.inl (by omega); exact Or.inr (Or.inl (by omega)); exact Or.inr (Or.inr ((by omega)))) (fun i h => by (try dsimp only at h); exact (by omega))) f353 (fun i k h => by (try dsimp only at h); exact Or.inl (by omega)) (fun i h => h.elim)) f388 (fun i k h => by (try dsimp only at h); rcases h with h | h; exact Or.inr (Or.inl (by omega)); exact Or.inr (Or.inr ((by omega)))) (fun i h => h.elim)) fσ395 (fun i k h => h.elim) (fun i h => by (try dsimp only at h); exact (by omega))) fσ397 (fun i k h => by (try dsimp only at h); exact Or.inl (by omega)) (fun i h => h.elim)) f407 (fun i k h => by (try dsimp only at h); exact Or.inl (by omega)) (fun i h => h.elim)), (show 0 ≤ ((z49.1 + (1 : Int32))).toInt by omega), (show (z49.1 + (1 : Int32)).toInt ≤ 12 by omega), ri408⟩ ?_
                  show (13 - (z49.1 + (1 : Int32)).toInt).toNat < (13 - z49.1.toInt).toNat
                  omega
                · skip
                  have c415 := wt_nceq h393
                  have bb416 := wt_bd (wt_gf r386 108 39)
                  have g417 : 0 ≤ (wt_gf r386 108 39).toInt ∧ (wt_gf r386 108 39).toInt ≤ 8 := wt_R_gf ri389 7 rfl
                  have tt418 : (wt_gf r386 108 39).toInt = (wt_gf r351.2 108 39).toInt := congrArg Int32.toInt (f388.1 108 39 (by (try dsimp only); omega))
                  have bb419 := wt_bd (wt_gf r351.2 108 39)
                  have g420 : 0 ≤ (wt_gf r351.2 108 39).toInt ∧ (wt_gf r351.2 108 39).toInt ≤ 8 := wt_R_gf ri354 7 rfl
                  have tt421 : (wt_gf r351.2 108 39).toInt = (wt_gf z49.2 108 39).toInt := congrArg Int32.toInt (f353.1 108 39 (by (try dsimp only); omega))
                  have bb422 := wt_bd (wt_gf z49.2 108 39)
                  have g423 : 0 ≤ (wt_gf z49.2 108 39).toInt ∧ (wt_gf z49.2 108 39).toInt ≤ 8 := wt_R_gf l54 7 rfl
                  have tt424 : (wt_gf z49.2 108 39).toInt = (wt_gf σ26 108 39).toInt := congrArg Int32.toInt (l51.1 108 39 (by (try dsimp only); omega))
                  refine wt_T.imp (wq_md_text_B195 n hn z49.1 r386 ri389 (by omega) (by omega) (by omega)) (fun r425 h426 => ?_)
                  have bb427 := wt_bd r425.1
                  obtain ⟨f428, ri429⟩ := h426
                  have bb430 := wt_bd (wt_gf r425.2 108 1)
                  have g431 : 0 ≤ (wt_gf r425.2 108 1).toInt ∧ (wt_gf r425.2 108 1).toInt ≤ 500 := wt_R_gf ri429 0 rfl
                  have tt432 : (wt_gf r425.2 108 1).toInt = (wt_gf r386 108 1).toInt := congrArg Int32.toInt (f428.1 108 1 (by (try dsimp only); omega))
                  have bb433 := wt_bd (wt_gf r386 108 1)
                  have g434 : 0 ≤ (wt_gf r386 108 1).toInt ∧ (wt_gf r386 108 1).toInt ≤ 500 := wt_R_gf ri389 0 rfl
                  have tt435 : (wt_gf r386 108 1).toInt = (wt_gf r351.2 108 1).toInt := congrArg Int32.toInt (f388.1 108 1 (by (try dsimp only); omega))
                  have bb436 := wt_bd (wt_gf r351.2 108 1)
                  have g437 : 0 ≤ (wt_gf r351.2 108 1).toInt ∧ (wt_gf r351.2 108 1).toInt ≤ 500 := wt_R_gf ri354 0 rfl
                  have tt438 : (wt_gf r351.2 108 1).toInt = (wt_gf z49.2 108 1).toInt := congrArg Int32.toInt (f353.1 108 1 (by (try dsimp only); omega))
                  have bb439 := wt_bd (wt_gf z49.2 108 1)
                  have g440 : 0 ≤ (wt_gf z49.2 108 1).toInt ∧ (wt_gf z49.2 108 1).toInt ≤ 500 := wt_R_gf l54 0 rfl
                  have tt441 : (wt_gf z49.2 108 1).toInt = (wt_gf σ26 108 1).toInt := congrArg Int32.toInt (l51.1 108 1 (by (try dsimp only); omega))
                  have bb442 := wt_bd (wt_gf σ26 108 1)
                  have g443 : 0 ≤ (wt_gf σ26 108 1).toInt ∧ (wt_gf σ26 108 1).toInt ≤ 500 := wt_R_gf rσ26 0 rfl
                  have tt444 : (wt_gf σ26 108 1).toInt = (wt_gf r15 108 1).toInt := congrArg Int32.toInt (fσ26.1 108 1 (by (try dsimp only); omega))
                  have bb445 := wt_bd (wt_gf σ 108 1)
                  have g446 : 0 ≤ (wt_gf σ 108 1).toInt ∧ (wt_gf σ 108 1).toInt ≤ 500 := wt_R_gf r0 0 rfl
                  exact ⟨(wt_fr.tr (wt_fr.tr (wt_fr.tr (wt_fr.tr (wt_fr.tr (wt_fr.tr (wt_fr.tr wt_fr.rf f6 (fun i k h => by (try dsimp only at h); exact Or.inl (by omega)) (fun i h => h.elim)) f17 (fun i k h => by (try dsimp only at h); rcases h with h | h | h | h | h | h; exact Or.inr (Or.inl (by omega)); exact Or.inr (Or.inr (Or.inl (by omega))); exact Or.inr (Or.inr (Or.inr (Or.inl (by omega)))); exact Or.inr (Or.inr (Or.inr (Or.inr (Or.inl (by omega))))); exact Or.inr (Or.inr (Or.inr (Or.inr (Or.inr (Or.inl (by omega)))))); exact Or.inr (Or.inr (Or.inr (Or.inr (Or.inr (Or.inr (Or.inl (by omega)))))))) (fun i h => h.elim)) fσ26 (fun i k h => by (try dsimp only at h); exact Or.inr (Or.inr (Or.inr (Or.inr (Or.inr (Or.inr (Or.inr (Or.inl (by omega))))))))) (fun i h => h.elim)) l51 (fun i k h => by (try dsimp only at h); rcases h with h | h | h; exact Or.inr (Or.inr (Or.inr (Or.inl (by omega)))); exact Or.inr (Or.inr (Or.inr (Or.inr (Or.inl (by omega))))); exact Or.inr (Or.inr (Or.inr (Or.inr (Or.inr (Or.inl (by omega))))))) (fun i h => by (try dsimp only at h); exact Or.inl (by omega))) f353 (fun i k h => by (try dsimp only at h); exact Or.inr (Or.inr (Or.inr (Or.inl (by omega))))) (fun i h => h.elim)) f388 (fun i k h => by (try dsimp only at h); rcases h with h | h; exact Or.inr (Or.inr (Or.inr (Or.inr (Or.inl (by omega))))); exact Or.inr (Or.inr (Or.inr (Or.inr (Or.inr (Or.inl (by omega))))))) (fun i h => h.elim)) f428 (fun i k h => by (try dsimp only at h); rcases h with h | h; exact Or.inr (Or.inr (Or.inr (Or.inr (Or.inr (Or.inr (Or.inr (Or.inl (by omega)))))))); exact Or.inr (Or.inr (Or.inr (Or.inr (Or.inr (Or.inr (Or.inr (Or.inr ((by omega)))))))))) (fun i h => by (try dsimp only at h); rcases h with h | h; exact Or.inr (Or.inl (by omega)); exact Or.inr (Or.inr ((by omega))))), ri429, (show ((y1.toInt ≠ 0 → (wt_gf r425.2 108 1).toInt = (wt_gf σ 108 1).toInt) ∧ (y1.toInt = 0 ∧ (wt_gf σ 108 0).toInt = 0 → (wt_gf r425.2 108 1).toInt = 0)) from by omega)⟩
              · skip
                have c447 := wt_nceq h384
                refine wt_T_if (fun h448 => ?_) (fun h448 => ?_)
                · skip
                  have c449 := wt_ceq h448
                  rw [wt_lm1] at c449
                  have k450 : (2 : Int32).toInt = 2 := by decide
                  refine wt_T_bi (wq_md_wrong n hn (2 : Int32) (wt_gf r351.2 108 4) r351.2 ri354 (by omega) (by omega)) (fun r451 h452 => ?_)
                  obtain ⟨f453, ri454, pp455⟩ := h452
                  have bb456 := wt_bd (wt_gf r451 108 5)
                  have g457 : 0 ≤ (wt_gf r451 108 5).toInt ∧ (wt_gf r451 108 5).toInt ≤ 3 := wt_R_gf ri454 3 rfl
                  unfold wp_md_text_B157
                  refine wt_T_if (fun h458 => ?_) (fun h458 => ?_)
                  · skip
                    have c459 := wt_ceq h458
                    refine wt_T_gd (wt_ix (by omega) (by omega)) ?_
                    obtain ⟨σ460, eσ460⟩ : ∃ z : wt_St, z = wt_sa r451 274 (Int32.toNatClampNeg z49.1) r379.1 := ⟨_, rfl⟩
                    rw [← eσ460]
                    have fσ460 := wt_fr_sa eσ460
                    have vσ460 := wt_ceq (wt_v_sa eσ460)
                    have bb461 := wt_tn z49.1
                    have rσ460 := wt_RI_in ri454 eσ460 11 rfl (by decide) (by decide) (show 0 ≤ (r379.1).toInt by omega) (show (r379.1).toInt ≤ 59 by omega)
                    obtain ⟨σ462, eσ462⟩ : ∃ z : wt_St, z = wt_sf σ460 108 4 ((wt_gf σ460 108 4) + r351.1) := ⟨_, rfl⟩
                    rw [← eσ462]
                    have fσ462 := wt_fr_sf eσ462
                    have vσ462 := wt_ceq (wt_v_sf eσ462)
                    have bb463 := wt_bd (wt_gf σ460 108 4)
                    have g464 : 0 ≤ (wt_gf σ460 108 4).toInt ∧ (wt_gf σ460 108 4).toInt ≤ 500 := wt_R_gf rσ460 2 rfl
                    have tt465 : (wt_gf σ460 108 4).toInt = (wt_gf r451 108 4).toInt := congrArg Int32.toInt (fσ460.1 108 4 (fun z => z))
                    have bb466 := wt_bd (wt_gf r451 108 4)
                    have g467 : 0 ≤ (wt_gf r451 108 4).toInt ∧ (wt_gf r451 108 4).toInt ≤ 500 := wt_R_gf ri454 2 rfl
                    have tt468 : (wt_gf r451 108 4).toInt = (wt_gf r351.2 108 4).toInt := congrArg Int32.toInt (f453.1 108 4 (by (try dsimp only); omega))
                    obtain ⟨j469, j469a, j469b⟩ := wt_addI (wt_gf σ460 108 4) r351.1
                    have rσ462 := wt_RI_fin rσ460 eσ462 2 rfl rfl (show 0 ≤ ((wt_gf σ460 108 4) + r351.1).toInt by omega) (show ((wt_gf σ460 108 4) + r351.1).toInt ≤ 500 by omega)
                    refine wt_T_bi (wq_md_blanks n hn σ462 rσ462) (fun r470 h471 => ?_)
                    obtain ⟨f472, ri473, pp474⟩ := h471
                    have bb475 := wt_bd (wt_gf σ462 108 4)
                    have g476 : 0 ≤ (wt_gf σ462 108 4).toInt ∧ (wt_gf σ462 108 4).toInt ≤ 500 := wt_R_gf rσ462 2 rfl
                    have bb477 := wt_bd (wt_gf r470 108 4)
                    have g478 : 0 ≤ (wt_gf r470 108 4).toInt ∧ (wt_gf r470 108 4).toInt ≤ 500 := wt_R_gf ri473 2 rfl
                    obtain ⟨j479, j479a, j479b⟩ := wt_addI z49.1 (1 : Int32)
                    refine hKK48 _ ⟨(wt_fr.tr (wt_fr.tr (wt_fr.tr (wt_fr.tr (wt_fr.tr (wt_fr.tr wt_fr.rf l51 (fun i k h => by (try dsimp only at h); rcases h with h | h | h; exact Or.inl (by omega); exact Or.inr (Or.inl (by omega)); exact Or.inr (Or.inr ((by omega)))) (fun i h => by (try dsimp only at h); exact (by omega))) f353 (fun i k h => by (try dsimp only at h); exact Or.inl (by omega)) (fun i h => h.elim)) f453 (fun i k h => by (try dsimp only at h); rcases h with h | h; exact Or.inr (Or.inl (by omega)); exact Or.inr (Or.inr ((by omega)))) (fun i h => h.elim)) fσ460 (fun i k h => h.elim) (fun i h => by (try dsimp only at h); exact (by omega))) fσ462 (fun i k h => by (try dsimp only at h); exact Or.inl (by omega)) (fun i h => h.elim)) f472 (fun i k h => by (try dsimp only at h); exact Or.inl (by omega)) (fun i h => h.elim)), (show 0 ≤ ((z49.1 + (1 : Int32))).toInt by omega), (show (z49.1 + (1 : Int32)).toInt ≤ 12 by omega), ri473⟩ ?_
                    show (13 - (z49.1 + (1 : Int32)).toInt).toNat < (13 - z49.1.toInt).toNat
                    omega
                  · skip
                    have c480 := wt_nceq h458
                    have bb481 := wt_bd (wt_gf r451 108 39)
                    have g482 : 0 ≤ (wt_gf r451 108 39).toInt ∧ (wt_gf r451 108 39).toInt ≤ 8 := wt_R_gf ri454 7 rfl
                    have tt483 : (wt_gf r451 108 39).toInt = (wt_gf r351.2 108 39).toInt := congrArg Int32.toInt (f453.1 108 39 (by (try dsimp only); omega))
                    have bb484 := wt_bd (wt_gf r351.2 108 39)
                    have g485 : 0 ≤ (wt_gf r351.2 108 39).toInt ∧ (wt_gf r351.2 108 39).toInt ≤ 8 := wt_R_gf ri354 7 rfl
                    have tt486 : (wt_gf r351.2 108 39).toInt = (wt_gf z49.2 108 39).toInt := congrArg Int32.toInt (f353.1 108 39 (by (try dsimp only); omega))
                    have bb487 := wt_bd (wt_gf z49.2 108 39)
                    have g488 : 0 ≤ (wt_gf z49.2 108 39).toInt ∧ (wt_gf z49.2 108 39).toInt ≤ 8 := wt_R_gf l54 7 rfl
                    have tt489 : (wt_gf z49.2 108 39).toInt = (wt_gf σ26 108 39).toInt := congrArg Int32.toInt (l51.1 108 39 (by (try dsimp only); omega))
                    refine wt_T.imp (wq_md_text_B195 n hn z49.1 r451 ri454 (by omega) (by omega) (by omega)) (fun r490 h491 => ?_)
                    have bb492 := wt_bd r490.1
                    obtain ⟨f493, ri494⟩ := h491
                    have bb495 := wt_bd (wt_gf r490.2 108 1)
                    have g496 : 0 ≤ (wt_gf r490.2 108 1).toInt ∧ (wt_gf r490.2 108 1).toInt ≤ 500 := wt_R_gf ri494 0 rfl
                    have tt497 : (wt_gf r490.2 108 1).toInt = (wt_gf r451 108 1).toInt := congrArg Int32.toInt (f493.1 108 1 (by (try dsimp only); omega))
                    have bb498 := wt_bd (wt_gf r451 108 1)
                    have g499 : 0 ≤ (wt_gf r451 108 1).toInt ∧ (wt_gf r451 108 1).toInt ≤ 500 := wt_R_gf ri454 0 rfl
                    have tt500 : (wt_gf r451 108 1).toInt = (wt_gf r351.2 108 1).toInt := congrArg Int32.toInt (f453.1 108 1 (by (try dsimp only); omega))
                    have bb501 := wt_bd (wt_gf r351.2 108 1)
                    have g502 : 0 ≤ (wt_gf r351.2 108 1).toInt ∧ (wt_gf r351.2 108 1).toInt ≤ 500 := wt_R_gf ri354 0 rfl
                    have tt503 : (wt_gf r351.2 108 1).toInt = (wt_gf z49.2 108 1).toInt := congrArg Int32.toInt (f353.1 108 1 (by (try dsimp only); omega))
                    have bb504 := wt_bd (wt_gf z49.2 108 1)
                    have g505 : 0 ≤ (wt_gf z49.2 108 1).toInt ∧ (wt_gf z49.2 108 1).toInt ≤ 500 := wt_R_gf l54 0 rfl
                    have tt506 : (wt_gf z49.2 108 1).toInt = (wt_gf σ26 108 1).toInt := congrArg Int32.toInt (l51.1 108 1 (by (try dsimp only); omega))
                    have bb507 := wt_bd (wt_gf σ26 108 1)
                    have g508 : 0 ≤ (wt_gf σ26 108 1).toInt ∧ (wt_gf σ26 108 1).toInt ≤ 500 := wt_R_gf rσ26 0 rfl
                    have tt509 : (wt_gf σ26 108 1).toInt = (wt_gf r15 108 1).toInt := congrArg Int32.toInt (fσ26.1 108 1 (by (try dsimp only); omega))
                    have bb510 := wt_bd (wt_gf σ 108 1)
                    have g511 : 0 ≤ (wt_gf σ 108 1).toInt ∧ (wt_gf σ 108 1).toInt ≤ 500 := wt_R_gf r0 0 rfl
                    exact ⟨(wt_fr.tr (wt_fr.tr (wt_fr.tr (wt_fr.tr (wt_fr.tr (wt_fr.tr (wt_fr.tr wt_fr.rf f6 (fun i k h => by (try dsimp only at h); exact Or.inl (by omega)) (fun i h => h.elim)) f17 (fun i k h => by (try dsimp only at h); rcases h with h | h | h | h | h | h; exact Or.inr (Or.inl (by omega)); exact Or.inr (Or.inr (Or.inl (by omega))); exact Or.inr (Or.inr (Or.inr (Or.inl (by omega)))); exact Or.inr (Or.inr (Or.inr (Or.inr (Or.inl (by omega))))); exact Or.inr (Or.inr (Or.inr (Or.inr (Or.inr (Or.inl (by omega)))))); exact Or.inr (Or.inr (Or.inr (Or.inr (Or.inr (Or.inr (Or.inl (by omega)))))))) (fun i h => h.elim)) fσ26 (fun i k h => by (try dsimp only at h); exact Or.inr (Or.inr (Or.inr (Or.inr (Or.inr (Or.inr (Or.inr (Or.inl (by omega))))))))) (fun i h => h.elim)) l51 (fun i k h => by (try dsimp only at h); rcases h with h | h | h; exact Or.inr (Or.inr (Or.inr (Or.inl (by omega)))); exact Or.inr (Or.inr (Or.inr (Or.inr (Or.inl (by omega))))); exact Or.inr (Or.inr (Or.inr (Or.inr (Or.inr (Or.inl (by omega))))))) (fun i h => by (try dsimp only at h); exact Or.inl (by omega))) f353 (fun i k h => by (try dsimp only at h); exact Or.inr (Or.inr (Or.inr (Or.inl (by omega))))) (fun i h => h.elim)) f453 (fun i k h => by (try dsimp only at h); rcases h with h | h; exact Or.inr (Or.inr (Or.inr (Or.inr (Or.inl (by omega))))); exact Or.inr (Or.inr (Or.inr (Or.inr (Or.inr (Or.inl (by omega))))))) (fun i h => h.elim)) f493 (fun i k h => by (try dsimp only at h); rcases h with h | h; exact Or.inr (Or.inr (Or.inr (Or.inr (Or.inr (Or.inr (Or.inr (Or.inl (by omega)))))))); exact Or.inr (Or.inr (Or.inr (Or.inr (Or.inr (Or.inr (Or.inr (Or.inr ((by omega)))))))))) (fun i h => by (try dsimp only at h); rcases h with h | h; exact Or.inr (Or.inl (by omega)); exact Or.inr (Or.inr ((by omega))))), ri494, (show ((y1.toInt ≠ 0 → (wt_gf r490.2 108 1).toInt = (wt_gf σ 108 1).toInt) ∧ (y1.toInt = 0 ∧ (wt_gf σ 108 0).toInt = 0 → (wt_gf r490.2 108 1).toInt = 0)) from by omega)⟩
                · skip
                  have c512 := wt_nceq h448
                  rw [wt_lm1] at c512
                  have k513 : (12 : Int32).toInt = 12 := by decide
                  refine wt_T_if (fun h514 => ?_) (fun h514 => ?_)
                  · skip
                    have c515 := wt_ceq h514
                    have k516 : (3 : Int32).toInt = 3 := by decide
                    refine wt_T_bi (wq_md_wrong n hn (3 : Int32) (wt_gf r351.2 108 4) r351.2 ri354 (by omega) (by omega)) (fun r517 h518 => ?_)
                    obtain ⟨f519, ri520, pp521⟩ := h518
                    have bb522 := wt_bd (wt_gf r517 108 5)
                    have g523 : 0 ≤ (wt_gf r517 108 5).toInt ∧ (wt_gf r517 108 5).toInt ≤ 3 := wt_R_gf ri520 3 rfl
                    unfold wp_md_text_B157
                    refine wt_T_if (fun h524 => ?_) (fun h524 => ?_)
                    · skip
                      have c525 := wt_ceq h524
                      refine wt_T_gd (wt_ix (by omega) (by omega)) ?_
                      obtain ⟨σ526, eσ526⟩ : ∃ z : wt_St, z = wt_sa r517 274 (Int32.toNatClampNeg z49.1) r379.1 := ⟨_, rfl⟩
                      rw [← eσ526]
                      have fσ526 := wt_fr_sa eσ526
                      have vσ526 := wt_ceq (wt_v_sa eσ526)
                      have bb527 := wt_tn z49.1
                      have rσ526 := wt_RI_in ri520 eσ526 11 rfl (by decide) (by decide) (show 0 ≤ (r379.1).toInt by omega) (show (r379.1).toInt ≤ 59 by omega)
                      obtain ⟨σ528, eσ528⟩ : ∃ z : wt_St, z = wt_sf σ526 108 4 ((wt_gf σ526 108 4) + r351.1) := ⟨_, rfl⟩
                      rw [← eσ528]
                      have fσ528 := wt_fr_sf eσ528
                      have vσ528 := wt_ceq (wt_v_sf eσ528)
                      have bb529 := wt_bd (wt_gf σ526 108 4)
                      have g530 : 0 ≤ (wt_gf σ526 108 4).toInt ∧ (wt_gf σ526 108 4).toInt ≤ 500 := wt_R_gf rσ526 2 rfl
                      have tt531 : (wt_gf σ526 108 4).toInt = (wt_gf r517 108 4).toInt := congrArg Int32.toInt (fσ526.1 108 4 (fun z => z))
                      have bb532 := wt_bd (wt_gf r517 108 4)
                      have g533 : 0 ≤ (wt_gf r517 108 4).toInt ∧ (wt_gf r517 108 4).toInt ≤ 500 := wt_R_gf ri520 2 rfl
                      have tt534 : (wt_gf r517 108 4).toInt = (wt_gf r351.2 108 4).toInt := congrArg Int32.toInt (f519.1 108 4 (by (try dsimp only); omega))
                      obtain ⟨j535, j535a, j535b⟩ := wt_addI (wt_gf σ526 108 4) r351.1
                      have rσ528 := wt_RI_fin rσ526 eσ528 2 rfl rfl (show 0 ≤ ((wt_gf σ526 108 4) + r351.1).toInt by omega) (show ((wt_gf σ526 108 4) + r351.1).toInt ≤ 500 by omega)
                      refine wt_T_bi (wq_md_blanks n hn σ528 rσ528) (fun r536 h537 => ?_)
                      obtain ⟨f538, ri539, pp540⟩ := h537
                      have bb541 := wt_bd (wt_gf σ528 108 4)
                      have g542 : 0 ≤ (wt_gf σ528 108 4).toInt ∧ (wt_gf σ528 108 4).toInt ≤ 500 := wt_R_gf rσ528 2 rfl
                      have bb543 := wt_bd (wt_gf r536 108 4)
                      have g544 : 0 ≤ (wt_gf r536 108 4).toInt ∧ (wt_gf r536 108 4).toInt ≤ 500 := wt_R_gf ri539 2 rfl
                      obtain ⟨j545, j545a, j545b⟩ := wt_addI z49.1 (1 : Int32)
                      refine hKK48 _ ⟨(wt_fr.tr (wt_fr.tr (wt_fr.tr (wt_fr.tr (wt_fr.tr (wt_fr.tr wt_fr.rf l51 (fun i k h => by (try dsimp only at h); rcases h with h | h | h; exact Or.inl (by omega); exact Or.inr (Or.inl (by omega)); exact Or.inr (Or.inr ((by omega)))) (fun i h => by (try dsimp only at h); exact (by omega))) f353 (fun i k h => by (try dsimp only at h); exact Or.inl (by omega)) (fun i h => h.elim)) f519 (fun i k h => by (try dsimp only at h); rcases h with h | h; exact Or.inr (Or.inl (by omega)); exact Or.inr (Or.inr ((by omega)))) (fun i h => h.elim)) fσ526 (fun i k h => h.elim) (fun i h => by (try dsimp only at h); exact (by omega))) fσ528 (fun i k h => by (try dsimp only at h); exact Or.inl (by omega)) (fun i h => h.elim)) f538 (fun i k h => by (try dsimp only at h); exact Or.inl (by omega)) (fun i h => h.elim)), (show 0 ≤ ((z49.1 + (1 : Int32))).toInt by omega), (show (z49.1 + (1 : Int32)).toInt ≤ 12 by omega), ri539⟩ ?_
                      show (13 - (z49.1 + (1 : Int32)).toInt).toNat < (13 - z49.1.toInt).toNat
                      omega
                    · skip
                      have c546 := wt_nceq h524
                      have bb547 := wt_bd (wt_gf r517 108 39)
                      have g548 : 0 ≤ (wt_gf r517 108 39).toInt ∧ (wt_gf r517 108 39).toInt ≤ 8 := wt_R_gf ri520 7 rfl
                      have tt549 : (wt_gf r517 108 39).toInt = (wt_gf r351.2 108 39).toInt := congrArg Int32.toInt (f519.1 108 39 (by (try dsimp only); omega))
                      have bb550 := wt_bd (wt_gf r351.2 108 39)
                      have g551 : 0 ≤ (wt_gf r351.2 108 39).toInt ∧ (wt_gf r351.2 108 39).toInt ≤ 8 := wt_R_gf ri354 7 rfl
                      have tt552 : (wt_gf r351.2 108 39).toInt = (wt_gf z49.2 108 39).toInt := congrArg Int32.toInt (f353.1 108 39 (by (try dsimp only); omega))
                      have bb553 := wt_bd (wt_gf z49.2 108 39)
                      have g554 : 0 ≤ (wt_gf z49.2 108 39).toInt ∧ (wt_gf z49.2 108 39).toInt ≤ 8 := wt_R_gf l54 7 rfl
                      have tt555 : (wt_gf z49.2 108 39).toInt = (wt_gf σ26 108 39).toInt := congrArg Int32.toInt (l51.1 108 39 (by (try dsimp only); omega))
                      refine wt_T.imp (wq_md_text_B195 n hn z49.1 r517 ri520 (by omega) (by omega) (by omega)) (fun r556 h557 => ?_)
                      have bb558 := wt_bd r556.1
                      obtain ⟨f559, ri560⟩ := h557
                      have bb561 := wt_bd (wt_gf r556.2 108 1)
                      have g562 : 0 ≤ (wt_gf r556.2 108 1).toInt ∧ (wt_gf r556.2 108 1).toInt ≤ 500 := wt_R_gf ri560 0 rfl
                      have tt563 : (wt_gf r556.2 108 1).toInt = (wt_gf r517 108 1).toInt := congrArg Int32.toInt (f559.1 108 1 (by (try dsimp only); omega))
                      have bb564 := wt_bd (wt_gf r517 108 1)
                      have g565 : 0 ≤ (wt_gf r517 108 1).toInt ∧ (wt_gf r517 108 1).toInt ≤ 500 := wt_R_gf ri520 0 rfl
                      have tt566 : (wt_gf r517 108 1).toInt = (wt_gf r351.2 108 1).toInt := congrArg Int32.toInt (f519.1 108 1 (by (try dsimp only); omega))
                      have bb567 := wt_bd (wt_gf r351.2 108 1)
                      have g568 : 0 ≤ (wt_gf r351.2 108 1).toInt ∧ (wt_gf r351.2 108 1).toInt ≤ 500 := wt_R_gf ri354 0 rfl
                      have tt569 : (wt_gf r351.2 108 1).toInt = (wt_gf z49.2 108 1).toInt := congrArg Int32.toInt (f353.1 108 1 (by (try dsimp only); omega))
                      have bb570 := wt_bd (wt_gf z49.2 108 1)
                      have g571 : 0 ≤ (wt_gf z49.2 108 1).toInt ∧ (wt_gf z49.2 108 1).toInt ≤ 500 := wt_R_gf l54 0 rfl
                      have tt572 : (wt_gf z49.2 108 1).toInt = (wt_gf σ26 108 1).toInt := congrArg Int32.toInt (l51.1 108 1 (by (try dsimp only); omega))
                      have bb573 := wt_bd (wt_gf σ26 108 1)
                      have g574 : 0 ≤ (wt_gf σ26 108 1).toInt ∧ (wt_gf σ26 108 1).toInt ≤ 500 := wt_R_gf rσ26 0 rfl
                      have tt575 : (wt_gf σ26 108 1).toInt = (wt_gf r15 108 1).toInt := congrArg Int32.toInt (fσ26.1 108 1 (by (try dsimp only); omega))
                      have bb576 := wt_bd (wt_gf σ 108 1)
                      have g577 : 0 ≤ (wt_gf σ 108 1).toInt ∧ (wt_gf σ 108 1).toInt ≤ 500 := wt_R_gf r0 0 rfl
                      exact ⟨(wt_fr.tr (wt_fr.tr (wt_fr.tr (wt_fr.tr (wt_fr.tr (wt_fr.tr (wt_fr.tr wt_fr.rf f6 (fun i k h => by (try dsimp only at h); exact Or.inl (by omega)) (fun i h => h.elim)) f17 (fun i k h => by (try dsimp only at h); rcases h with h | h | h | h | h | h; exact Or.inr (Or.inl (by omega)); exact Or.inr (Or.inr (Or.inl (by omega))); exact Or.inr (Or.inr (Or.inr (Or.inl (by omega)))); exact Or.inr (Or.inr (Or.inr (Or.inr (Or.inl (by omega))))); exact Or.inr (Or.inr (Or.inr (Or.inr (Or.inr (Or.inl (by omega)))))); exact Or.inr (Or.inr (Or.inr (Or.inr (Or.inr (Or.inr (Or.inl (by omega)))))))) (fun i h => h.elim)) fσ26 (fun i k h => by (try dsimp only at h); exact Or.inr (Or.inr (Or.inr (Or.inr (Or.inr (Or.inr (Or.inr (Or.inl (by omega))))))))) (fun i h => h.elim)) l51 (fun i k h => by (try dsimp only at h); rcases h with h | h | h; exact Or.inr (Or.inr (Or.inr (Or.inl (by omega)))); exact Or.inr (Or.inr (Or.inr (Or.inr (Or.inl (by omega))))); exact Or.inr (Or.inr (Or.inr (Or.inr (Or.inr (Or.inl (by omega))))))) (fun i h => by (try dsimp only at h); exact Or.inl (by omega))) f353 (fun i k h => by (try dsimp only at h); exact Or.inr (Or.inr (Or.inr (Or.inl (by omega))))) (fun i h => h.elim)) f519 (fun i k h => by (try dsimp only at h); rcases h with h | h; exact Or.inr (Or.inr (Or.inr (Or.inr (Or.inl (by omega))))); exact Or.inr (Or.inr (Or.inr (Or.inr (Or.inr (Or.inl (by omega))))))) (fun i h => h.elim)) f559 (fun i k h => by (try dsimp only at h); rcases h with h | h; exact Or.inr (Or.inr (Or.inr (Or.inr (Or.inr (Or.inr (Or.inr (Or.inl (by omega)))))))); exact Or.inr (Or.inr (Or.inr (Or.inr (Or.inr (Or.inr (Or.inr (Or.inr ((by omega)))))))))) (fun i h => by (try dsimp only at h); rcases h with h | h; exact Or.inr (Or.inl (by omega)); exact Or.inr (Or.inr ((by omega))))), ri560, (show ((y1.toInt ≠ 0 → (wt_gf r556.2 108 1).toInt = (wt_gf σ 108 1).toInt) ∧ (y1.toInt = 0 ∧ (wt_gf σ 108 0).toInt = 0 → (wt_gf r556.2 108 1).toInt = 0)) from by omega)⟩
                  · skip
                    have c578 := wt_nceq h514
                    unfold wp_md_text_B157
                    have bb579 := wt_bd (wt_gf r351.2 108 5)
                    have g580 : 0 ≤ (wt_gf r351.2 108 5).toInt ∧ (wt_gf r351.2 108 5).toInt ≤ 3 := wt_R_gf ri354 3 rfl
                    have tt581 : (wt_gf r351.2 108 5).toInt = (wt_gf z49.2 108 5).toInt := congrArg Int32.toInt (f353.1 108 5 (by (try dsimp only); omega))
                    refine wt_T_if (fun h582 => ?_) (fun h582 => ?_)
                    · skip
                      have c583 := wt_ceq h582
                      refine wt_T_gd (wt_ix (by omega) (by omega)) ?_
                      obtain ⟨σ584, eσ584⟩ : ∃ z : wt_St, z = wt_sa r351.2 274 (Int32.toNatClampNeg z49.1) r379.1 := ⟨_, rfl⟩
                      rw [← eσ584]
                      have fσ584 := wt_fr_sa eσ584
                      have vσ584 := wt_ceq (wt_v_sa eσ584)
                      have bb585 := wt_tn z49.1
                      have rσ584 := wt_RI_in ri354 eσ584 11 rfl (by decide) (by decide) (show 0 ≤ (r379.1).toInt by omega) (show (r379.1).toInt ≤ 59 by omega)
                      obtain ⟨σ586, eσ586⟩ : ∃ z : wt_St, z = wt_sf σ584 108 4 ((wt_gf σ584 108 4) + r351.1) := ⟨_, rfl⟩
                      rw [← eσ586]
                      have fσ586 := wt_fr_sf eσ586
                      have vσ586 := wt_ceq (wt_v_sf eσ586)
                      have bb587 := wt_bd (wt_gf σ584 108 4)
                      have g588 : 0 ≤ (wt_gf σ584 108 4).toInt ∧ (wt_gf σ584 108 4).toInt ≤ 500 := wt_R_gf rσ584 2 rfl
                      have tt589 : (wt_gf σ584 108 4).toInt = (wt_gf r351.2 108 4).toInt := congrArg Int32.toInt (fσ584.1 108 4 (fun z => z))
                      obtain ⟨j590, j590a, j590b⟩ := wt_addI (wt_gf σ584 108 4) r351.1
                      have rσ586 := wt_RI_fin rσ584 eσ586 2 rfl rfl (show 0 ≤ ((wt_gf σ584 108 4) + r351.1).toInt by omega) (show ((wt_gf σ584 108 4) + r351.1).toInt ≤ 500 by omega)
                      refine wt_T_bi (wq_md_blanks n hn σ586 rσ586) (fun r591 h592 => ?_)
                      obtain ⟨f593, ri594, pp595⟩ := h592
                      have bb596 := wt_bd (wt_gf σ586 108 4)
                      have g597 : 0 ≤ (wt_gf σ586 108 4).toInt ∧ (wt_gf σ586 108 4).toInt ≤ 500 := wt_R_gf rσ586 2 rfl
                      have bb598 := wt_bd (wt_gf r591 108 4)
                      have g599 : 0 ≤ (wt_gf r591 108 4).toInt ∧ (wt_gf r591 108 4).toInt ≤ 500 := wt_R_gf ri594 2 rfl
                      obtain ⟨j600, j600a, j600b⟩ := wt_addI z49.1 (1 : Int32)
                      refine hKK48 _ ⟨(wt_fr.tr (wt_fr.tr (wt_fr.tr (wt_fr.tr (wt_fr.tr wt_fr.rf l51 (fun i k h => by (try dsimp only at h); rcases h with h | h | h; exact Or.inl (by omega); exact Or.inr (Or.inl (by omega)); exact Or.inr (Or.inr ((by omega)))) (fun i h => by (try dsimp only at h); exact (by omega))) f353 (fun i k h => by (try dsimp only at h); exact Or.inl (by omega)) (fun i h => h.elim)) fσ584 (fun i k h => h.elim) (fun i h => by (try dsimp only at h); exact (by omega))) fσ586 (fun i k h => by (try dsimp only at h); exact Or.inl (by omega)) (fun i h => h.elim)) f593 (fun i k h => by (try dsimp only at h); exact Or.inl (by omega)) (fun i h => h.elim)), (show 0 ≤ ((z49.1 + (1 : Int32))).toInt by omega), (show (z49.1 + (1 : Int32)).toInt ≤ 12 by omega), ri594⟩ ?_
                      show (13 - (z49.1 + (1 : Int32)).toInt).toNat < (13 - z49.1.toInt).toNat
                      omega
                    · skip
                      have c601 := wt_nceq h582
                      have bb602 := wt_bd (wt_gf r351.2 108 39)
                      have g603 : 0 ≤ (wt_gf r351.2 108 39).toInt ∧ (wt_gf r351.2 108 39).toInt ≤ 8 := wt_R_gf ri354 7 rfl
                      have tt604 : (wt_gf r351.2 108 39).toInt = (wt_gf z49.2 108 39).toInt := congrArg Int32.toInt (f353.1 108 39 (by (try dsimp only); omega))
                      have bb605 := wt_bd (wt_gf z49.2 108 39)
                      have g606 : 0 ≤ (wt_gf z49.2 108 39).toInt ∧ (wt_gf z49.2 108 39).toInt ≤ 8 := wt_R_gf l54 7 rfl
                      have tt607 : (wt_gf z49.2 108 39).toInt = (wt_gf σ26 108 39).toInt := congrArg Int32.toInt (l51.1 108 39 (by (try dsimp only); omega))
                      refine wt_T.imp (wq_md_text_B195 n hn z49.1 r351.2 ri354 (by omega) (by omega) (by omega)) (fun r608 h609 => ?_)
                      have bb610 := wt_bd r608.1
                      obtain ⟨f611, ri612⟩ := h609
                      have bb613 := wt_bd (wt_gf r608.2 108 1)
                      have g614 : 0 ≤ (wt_gf r608.2 108 1).toInt ∧ (wt_gf r608.2 108 1).toInt ≤ 500 := wt_R_gf ri612 0 rfl
                      have tt615 : (wt_gf r608.2 108 1).toInt = (wt_gf r351.2 108 1).toInt := congrArg Int32.toInt (f611.1 108 1 (by (try dsimp only); omega))
                      have bb616 := wt_bd (wt_gf r351.2 108 1)
                      have g617 : 0 ≤ (wt_gf r351.2 108 1).toInt ∧ (wt_gf r351.2 108 1).toInt ≤ 500 := wt_R_gf ri354 0 rfl
                      have tt618 : (wt_gf r351.2 108 1).toInt = (wt_gf z49.2 108 1).toInt := congrArg Int32.toInt (f353.1 108 1 (by (try dsimp only); omega))
                      have bb619 := wt_bd (wt_gf z49.2 108 1)
                      have g620 : 0 ≤ (wt_gf z49.2 108 1).toInt ∧ (wt_gf z49.2 108 1).toInt ≤ 500 := wt_R_gf l54 0 rfl
                      have tt621 : (wt_gf z49.2 108 1).toInt = (wt_gf σ26 108 1).toInt := congrArg Int32.toInt (l51.1 108 1 (by (try dsimp only); omega))
                      have bb622 := wt_bd (wt_gf σ26 108 1)
                      have g623 : 0 ≤ (wt_gf σ26 108 1).toInt ∧ (wt_gf σ26 108 1).toInt ≤ 500 := wt_R_gf rσ26 0 rfl
                      have tt624 : (wt_gf σ26 108 1).toInt = (wt_gf r15 108 1).toInt := congrArg Int32.toInt (fσ26.1 108 1 (by (try dsimp only); omega))
                      have bb625 := wt_bd (wt_gf σ 108 1)
                      have g626 : 0 ≤ (wt_gf σ 108 1).toInt ∧ (wt_gf σ 108 1).toInt ≤ 500 := wt_R_gf r0 0 rfl
                      exact ⟨(wt_fr.tr (wt_fr.tr (wt_fr.tr (wt_fr.tr (wt_fr.tr (wt_fr.tr wt_fr.rf f6 (fun i k h => by (try dsimp only at h); exact Or.inl (by omega)) (fun i h => h.elim)) f17 (fun i k h => by (try dsimp only at h); rcases h with h | h | h | h | h | h; exact Or.inr (Or.inl (by omega)); exact Or.inr (Or.inr (Or.inl (by omega))); exact Or.inr (Or.inr (Or.inr (Or.inl (by omega)))); exact Or.inr (Or.inr (Or.inr (Or.inr (Or.inl (by omega))))); exact Or.inr (Or.inr (Or.inr (Or.inr (Or.inr (Or.inl (by omega)))))); exact Or.inr (Or.inr (Or.inr (Or.inr (Or.inr (Or.inr (Or.inl (by omega)))))))) (fun i h => h.elim)) fσ26 (fun i k h => by (try dsimp only at h); exact Or.inr (Or.inr (Or.inr (Or.inr (Or.inr (Or.inr (Or.inr (Or.inl (by omega))))))))) (fun i h => h.elim)) l51 (fun i k h => by (try dsimp only at h); rcases h with h | h | h; exact Or.inr (Or.inr (Or.inr (Or.inl (by omega)))); exact Or.inr (Or.inr (Or.inr (Or.inr (Or.inl (by omega))))); exact Or.inr (Or.inr (Or.inr (Or.inr (Or.inr (Or.inl (by omega))))))) (fun i h => by (try dsimp only at h); exact Or.inl (by omega))) f353 (fun i k h => by (try dsimp only at h); exact Or.inr (Or.inr (Or.inr (Or.inl (by omega))))) (fun i h => h.elim)) f611 (fun i k h => by (try dsimp only at h); rcases h with h | h; exact Or.inr (Or.inr (Or.inr (Or.inr (Or.inr (Or.inr (Or.inr (Or.inl (by omega)))))))); exact Or.inr (Or.inr (Or.inr (Or.inr (Or.inr (Or.inr (Or.inr (Or.inr ((by omega)))))))))) (fun i h => by (try dsimp only at h); rcases h with h | h; exact Or.inr (Or.inl (by omega)); exact Or.inr (Or.inr ((by omega))))), ri612, (show ((y1.toInt ≠ 0 → (wt_gf r608.2 108 1).toInt = (wt_gf σ 108 1).toInt) ∧ (y1.toInt = 0 ∧ (wt_gf σ 108 0).toInt = 0 → (wt_gf r608.2 108 1).toInt = 0)) from by omega)⟩
            · skip
              have c627 := wt_nceq h349
              have bb628 := wt_bd (wt_gf z49.2 108 39)
              have g629 : 0 ≤ (wt_gf z49.2 108 39).toInt ∧ (wt_gf z49.2 108 39).toInt ≤ 8 := wt_R_gf l54 7 rfl
              have tt630 : (wt_gf z49.2 108 39).toInt = (wt_gf σ26 108 39).toInt := congrArg Int32.toInt (l51.1 108 39 (by (try dsimp only); omega))
              refine wt_T.imp (wq_md_text_B195 n hn z49.1 z49.2 l54 (by omega) (by omega) (by omega)) (fun r631 h632 => ?_)
              have bb633 := wt_bd r631.1
              obtain ⟨f634, ri635⟩ := h632
              have bb636 := wt_bd (wt_gf r631.2 108 1)
              have g637 : 0 ≤ (wt_gf r631.2 108 1).toInt ∧ (wt_gf r631.2 108 1).toInt ≤ 500 := wt_R_gf ri635 0 rfl
              have tt638 : (wt_gf r631.2 108 1).toInt = (wt_gf z49.2 108 1).toInt := congrArg Int32.toInt (f634.1 108 1 (by (try dsimp only); omega))
              have bb639 := wt_bd (wt_gf z49.2 108 1)
              have g640 : 0 ≤ (wt_gf z49.2 108 1).toInt ∧ (wt_gf z49.2 108 1).toInt ≤ 500 := wt_R_gf l54 0 rfl
              have tt641 : (wt_gf z49.2 108 1).toInt = (wt_gf σ26 108 1).toInt := congrArg Int32.toInt (l51.1 108 1 (by (try dsimp only); omega))
              have bb642 := wt_bd (wt_gf σ26 108 1)
              have g643 : 0 ≤ (wt_gf σ26 108 1).toInt ∧ (wt_gf σ26 108 1).toInt ≤ 500 := wt_R_gf rσ26 0 rfl
              have tt644 : (wt_gf σ26 108 1).toInt = (wt_gf r15 108 1).toInt := congrArg Int32.toInt (fσ26.1 108 1 (by (try dsimp only); omega))
              have bb645 := wt_bd (wt_gf σ 108 1)
              have g646 : 0 ≤ (wt_gf σ 108 1).toInt ∧ (wt_gf σ 108 1).toInt ≤ 500 := wt_R_gf r0 0 rfl
              exact ⟨(wt_fr.tr (wt_fr.tr (wt_fr.tr (wt_fr.tr (wt_fr.tr wt_fr.rf f6 (fun i k h => by (try dsimp only at h); exact Or.inl (by omega)) (fun i h => h.elim)) f17 (fun i k h => by (try dsimp only at h); rcases h with h | h | h | h | h | h; exact Or.inr (Or.inl (by omega)); exact Or.inr (Or.inr (Or.inl (by omega))); exact Or.inr (Or.inr (Or.inr (Or.inl (by omega)))); exact Or.inr (Or.inr (Or.inr (Or.inr (Or.inl (by omega))))); exact Or.inr (Or.inr (Or.inr (Or.inr (Or.inr (Or.inl (by omega)))))); exact Or.inr (Or.inr (Or.inr (Or.inr (Or.inr (Or.inr (Or.inl (by omega)))))))) (fun i h => h.elim)) fσ26 (fun i k h => by (try dsimp only at h); exact Or.inr (Or.inr (Or.inr (Or.inr (Or.inr (Or.inr (Or.inr (Or.inl (by omega))))))))) (fun i h => h.elim)) l51 (fun i k h => by (try dsimp only at h); rcases h with h | h | h; exact Or.inr (Or.inr (Or.inr (Or.inl (by omega)))); exact Or.inr (Or.inr (Or.inr (Or.inr (Or.inl (by omega))))); exact Or.inr (Or.inr (Or.inr (Or.inr (Or.inr (Or.inl (by omega))))))) (fun i h => by (try dsimp only at h); exact Or.inl (by omega))) f634 (fun i k h => by (try dsimp only at h); rcases h with h | h; exact Or.inr (Or.inr (Or.inr (Or.inr (Or.inr (Or.inr (Or.inr (Or.inl (by omega)))))))); exact Or.inr (Or.inr (Or.inr (Or.inr (Or.inr (Or.inr (Or.inr (Or.inr ((by omega)))))))))) (fun i h => by (try dsimp only at h); rcases h with h | h; exact Or.inr (Or.inl (by omega)); exact Or.inr (Or.inr ((by omega))))), ri635, (show ((y1.toInt ≠ 0 → (wt_gf r631.2 108 1).toInt = (wt_gf σ 108 1).toInt) ∧ (y1.toInt = 0 ∧ (wt_gf σ 108 0).toInt = 0 → (wt_gf r631.2 108 1).toInt = 0)) from by omega)⟩
        · skip
          have c647 := wt_nceq h58
          have bb648 := wt_bd (wt_gf z49.2 108 39)
          have g649 : 0 ≤ (wt_gf z49.2 108 39).toInt ∧ (wt_gf z49.2 108 39).toInt ≤ 8 := wt_R_gf l54 7 rfl
          have tt650 : (wt_gf z49.2 108 39).toInt = (wt_gf σ26 108 39).toInt := congrArg Int32.toInt (l51.1 108 39 (by (try dsimp only); omega))
          refine wt_T.imp (wq_md_text_B195 n hn z49.1 z49.2 l54 (by omega) (by omega) (by omega)) (fun r651 h652 => ?_)
          have bb653 := wt_bd r651.1
          obtain ⟨f654, ri655⟩ := h652
          have bb656 := wt_bd (wt_gf r651.2 108 1)
          have g657 : 0 ≤ (wt_gf r651.2 108 1).toInt ∧ (wt_gf r651.2 108 1).toInt ≤ 500 := wt_R_gf ri655 0 rfl
          have tt658 : (wt_gf r651.2 108 1).toInt = (wt_gf z49.2 108 1).toInt := congrArg Int32.toInt (f654.1 108 1 (by (try dsimp only); omega))
          have bb659 := wt_bd (wt_gf z49.2 108 1)
          have g660 : 0 ≤ (wt_gf z49.2 108 1).toInt ∧ (wt_gf z49.2 108 1).toInt ≤ 500 := wt_R_gf l54 0 rfl
          have tt661 : (wt_gf z49.2 108 1).toInt = (wt_gf σ26 108 1).toInt := congrArg Int32.toInt (l51.1 108 1 (by (try dsimp only); omega))
          have bb662 := wt_bd (wt_gf σ26 108 1)
          have g663 : 0 ≤ (wt_gf σ26 108 1).toInt ∧ (wt_gf σ26 108 1).toInt ≤ 500 := wt_R_gf rσ26 0 rfl
          have tt664 : (wt_gf σ26 108 1).toInt = (wt_gf r15 108 1).toInt := congrArg Int32.toInt (fσ26.1 108 1 (by (try dsimp only); omega))
          have bb665 := wt_bd (wt_gf σ 108 1)
          have g666 : 0 ≤ (wt_gf σ 108 1).toInt ∧ (wt_gf σ 108 1).toInt ≤ 500 := wt_R_gf r0 0 rfl
          exact ⟨(wt_fr.tr (wt_fr.tr (wt_fr.tr (wt_fr.tr (wt_fr.tr wt_fr.rf f6 (fun i k h => by (try dsimp only at h); exact Or.inl (by omega)) (fun i h => h.elim)) f17 (fun i k h => by (try dsimp only at h); rcases h with h | h | h | h | h | h; exact Or.inr (Or.inl (by omega)); exact Or.inr (Or.inr (Or.inl (by omega))); exact Or.inr (Or.inr (Or.inr (Or.inl (by omega)))); exact Or.inr (Or.inr (Or.inr (Or.inr (Or.inl (by omega))))); exact Or.inr (Or.inr (Or.inr (Or.inr (Or.inr (Or.inl (by omega)))))); exact Or.inr (Or.inr (Or.inr (Or.inr (Or.inr (Or.inr (Or.inl (by omega)))))))) (fun i h => h.elim)) fσ26 (fun i k h => by (try dsimp only at h); exact Or.inr (Or.inr (Or.inr (Or.inr (Or.inr (Or.inr (Or.inr (Or.inl (by omega))))))))) (fun i h => h.elim)) l51 (fun i k h => by (try dsimp only at h); rcases h with h | h | h; exact Or.inr (Or.inr (Or.inr (Or.inl (by omega)))); exact Or.inr (Or.inr (Or.inr (Or.inr (Or.inl (by omega))))); exact Or.inr (Or.inr (Or.inr (Or.inr (Or.inr (Or.inl (by omega))))))) (fun i h => by (try dsimp only at h); exact Or.inl (by omega))) f654 (fun i k h => by (try dsimp only at h); rcases h with h | h; exact Or.inr (Or.inr (Or.inr (Or.inr (Or.inr (Or.inr (Or.inr (Or.inl (by omega)))))))); exact Or.inr (Or.inr (Or.inr (Or.inr (Or.inr (Or.inr (Or.inr (Or.inr ((by omega)))))))))) (fun i h => by (try dsimp only at h); rcases h with h | h; exact Or.inr (Or.inl (by omega)); exact Or.inr (Or.inr ((by omega))))), ri655, (show ((y1.toInt ≠ 0 → (wt_gf r651.2 108 1).toInt = (wt_gf σ 108 1).toInt) ∧ (y1.toInt = 0 ∧ (wt_gf σ 108 0).toInt = 0 → (wt_gf r651.2 108 1).toInt = 0)) from by omega)⟩
      · skip
        exact ⟨wt_fr.rf, (show 0 ≤ ((0 : Int32)).toInt by omega), (show (0 : Int32).toInt ≤ 12 by omega), rσ26⟩
      · skip
        show (13 - (0 : Int32).toInt).toNat < n
        omega
  · skip
    have c667 := wt_nceq h13
    refine wt_T_some ?_
    have bb668 := wt_bd (wt_gf r4.2 108 1)
    have g669 : 0 ≤ (wt_gf r4.2 108 1).toInt ∧ (wt_gf r4.2 108 1).toInt ≤ 500 := wt_R_gf ri7 0 rfl
    have tt670 : (wt_gf r4.2 108 1).toInt = (wt_gf σ 108 1).toInt := congrArg Int32.toInt (f6.1 108 1 (by (try dsimp only); omega))
    have bb671 := wt_bd (wt_gf σ 108 1)
    have g672 : 0 ≤ (wt_gf σ 108 1).toInt ∧ (wt_gf σ 108 1).toInt ≤ 500 := wt_R_gf r0 0 rfl
    exact ⟨(wt_fr.tr wt_fr.rf f6 (fun i k h => by (try dsimp only at h); exact Or.inl (by omega)) (fun i h => h.elim)), ri7, (show ((y1.toInt ≠ 0 → (wt_gf r4.2 108 1).toInt = (wt_gf σ 108 1).toInt) ∧ (y1.toInt = 0 ∧ (wt_gf σ 108 0).toInt = 0 → (wt_gf r4.2 108 1).toInt = 0)) from by omega)⟩
set_option maxRecDepth 100000 in
set_option maxHeartbeats 4000000 in
theorem wq_md_text (n : Nat) (hn : 4294967297 < n) (x1 : Int32) (σ : wt_St) (r0 : wt_RI σ) : wt_T (wp_md_text n x1 σ) (fun q => wt_fr (fun i k => (i = 108 ∧ k = 0) ∨ (i = 108 ∧ k = 1) ∨ (i = 108 ∧ k = 2) ∨ (i = 108 ∧ k = 4) ∨ (i = 108 ∧ k = 5) ∨ (i = 108 ∧ k = 6) ∨ (i = 108 ∧ k = 7) ∨ (i = 108 ∧ k = 3) ∨ (i = 108 ∧ k = 39)) (fun i => i = 274 ∨ i = 253 ∨ (255 ≤ i ∧ i < 263)) σ q.2 ∧ wt_RI q.2 ∧ ((x1.toInt < 0 ∨ (wt_gf σ 108 1).toInt < x1.toInt ∨ 200 < x1.toInt → (wt_gf q.2 108 1).toInt = (wt_gf σ 108 1).toInt) ∧ (0 ≤ x1.toInt ∧ x1.toInt ≤ (wt_gf σ 108 1).toInt ∧ x1.toInt ≤ 200 → (wt_gf q.2 108 1).toInt = 0))) := by
  have bb1 := wt_bd x1
  unfold wp_md_text
  obtain ⟨σ2, eσ2⟩ : ∃ z : wt_St, z = wt_sf σ 108 0 (0 : Int32) := ⟨_, rfl⟩
  rw [← eσ2]
  have fσ2 := wt_fr_sf eσ2
  have vσ2 := wt_ceq (wt_v_sf eσ2)
  have k3 : (0 : Int32).toInt = 0 := by decide
  have rσ2 := wt_RI_fno r0 eσ2 (Or.inr (by decide))
  have bb4 := wt_bd (wt_gf σ2 108 1)
  have g5 : 0 ≤ (wt_gf σ2 108 1).toInt ∧ (wt_gf σ2 108 1).toInt ≤ 500 := wt_R_gf rσ2 0 rfl
  have tt6 : (wt_gf σ2 108 1).toInt = (wt_gf σ 108 1).toInt := congrArg Int32.toInt (fσ2.1 108 1 (by (try dsimp only); omega))
  have bb7 := wt_bd (wt_gf σ 108 1)
  have g8 : 0 ≤ (wt_gf σ 108 1).toInt ∧ (wt_gf σ 108 1).toInt ≤ 500 := wt_R_gf r0 0 rfl
  refine wt_T_bi (wq_md_in n hn x1 (0 : Int32) (wt_gf σ2 108 1) σ2 rσ2) (fun r9 h10 => ?_)
  obtain ⟨e11, pp12⟩ := h10
  have bb13 := wt_bd r9.1
  rw [e11]
  refine wt_T_if (fun h14 => ?_) (fun h14 => ?_)
  · skip
    have c15 := wt_ceq h14
    unfold wp_md_text_B25
    have k16 : (1 : Int32).toInt = 1 := by decide
    refine wt_T.imp (wq_md_text_B30 n hn x1 (1 : Int32) σ2 rσ2 (by omega)) (fun r17 h18 => ?_)
    have bb19 := wt_bd r17.1
    obtain ⟨f20, ri21, pp22⟩ := h18
    have bb23 := wt_bd (wt_gf r17.2 108 1)
    have g24 : 0 ≤ (wt_gf r17.2 108 1).toInt ∧ (wt_gf r17.2 108 1).toInt ≤ 500 := wt_R_gf ri21 0 rfl
    have bb25 := wt_bd (wt_gf σ2 108 0)
    exact ⟨(wt_fr.tr (wt_fr.tr wt_fr.rf fσ2 (fun i k h => by (try dsimp only at h); exact Or.inl (by omega)) (fun i h => h.elim)) f20 (fun i k h => by (try dsimp only at h); rcases h with h | h | h | h | h | h | h | h | h; exact Or.inl (by omega); exact Or.inr (Or.inl (by omega)); exact Or.inr (Or.inr (Or.inl (by omega))); exact Or.inr (Or.inr (Or.inr (Or.inl (by omega)))); exact Or.inr (Or.inr (Or.inr (Or.inr (Or.inl (by omega))))); exact Or.inr (Or.inr (Or.inr (Or.inr (Or.inr (Or.inl (by omega)))))); exact Or.inr (Or.inr (Or.inr (Or.inr (Or.inr (Or.inr (Or.inl (by omega))))))); exact Or.inr (Or.inr (Or.inr (Or.inr (Or.inr (Or.inr (Or.inr (Or.inl (by omega)))))))); exact Or.inr (Or.inr (Or.inr (Or.inr (Or.inr (Or.inr (Or.inr (Or.inr ((by omega)))))))))) (fun i h => by (try dsimp only at h); rcases h with h | h | h; exact Or.inl (by omega); exact Or.inr (Or.inl (by omega)); exact Or.inr (Or.inr ((by omega))))), ri21, (show ((x1.toInt < 0 ∨ (wt_gf σ 108 1).toInt < x1.toInt ∨ 200 < x1.toInt → (wt_gf r17.2 108 1).toInt = (wt_gf σ 108 1).toInt) ∧ (0 ≤ x1.toInt ∧ x1.toInt ≤ (wt_gf σ 108 1).toInt ∧ x1.toInt ≤ 200 → (wt_gf r17.2 108 1).toInt = 0)) from by omega)⟩
  · skip
    have c26 := wt_nceq h14
    have k27 : (200 : Int32).toInt = 200 := by decide
    refine wt_T_if (fun h28 => ?_) (fun h28 => ?_)
    · skip
      have c29 := wt_cle h28
      refine wt_T.imp (wq_md_text_B30 n hn x1 (0 : Int32) σ2 rσ2 (by omega)) (fun r30 h31 => ?_)
      have bb32 := wt_bd r30.1
      obtain ⟨f33, ri34, pp35⟩ := h31
      have bb36 := wt_bd (wt_gf r30.2 108 1)
      have g37 : 0 ≤ (wt_gf r30.2 108 1).toInt ∧ (wt_gf r30.2 108 1).toInt ≤ 500 := wt_R_gf ri34 0 rfl
      have bb38 := wt_bd (wt_gf σ2 108 0)
      exact ⟨(wt_fr.tr (wt_fr.tr wt_fr.rf fσ2 (fun i k h => by (try dsimp only at h); exact Or.inl (by omega)) (fun i h => h.elim)) f33 (fun i k h => by (try dsimp only at h); rcases h with h | h | h | h | h | h | h | h | h; exact Or.inl (by omega); exact Or.inr (Or.inl (by omega)); exact Or.inr (Or.inr (Or.inl (by omega))); exact Or.inr (Or.inr (Or.inr (Or.inl (by omega)))); exact Or.inr (Or.inr (Or.inr (Or.inr (Or.inl (by omega))))); exact Or.inr (Or.inr (Or.inr (Or.inr (Or.inr (Or.inl (by omega)))))); exact Or.inr (Or.inr (Or.inr (Or.inr (Or.inr (Or.inr (Or.inl (by omega))))))); exact Or.inr (Or.inr (Or.inr (Or.inr (Or.inr (Or.inr (Or.inr (Or.inl (by omega)))))))); exact Or.inr (Or.inr (Or.inr (Or.inr (Or.inr (Or.inr (Or.inr (Or.inr ((by omega)))))))))) (fun i h => by (try dsimp only at h); rcases h with h | h | h; exact Or.inl (by omega); exact Or.inr (Or.inl (by omega)); exact Or.inr (Or.inr ((by omega))))), ri34, (show ((x1.toInt < 0 ∨ (wt_gf σ 108 1).toInt < x1.toInt ∨ 200 < x1.toInt → (wt_gf r30.2 108 1).toInt = (wt_gf σ 108 1).toInt) ∧ (0 ≤ x1.toInt ∧ x1.toInt ≤ (wt_gf σ 108 1).toInt ∧ x1.toInt ≤ 200 → (wt_gf r30.2 108 1).toInt = 0)) from by omega)⟩
    · skip
      have c39 := wt_ncle h28
      unfold wp_md_text_B25
      have k40 : (1 : Int32).toInt = 1 := by decide
      refine wt_T.imp (wq_md_text_B30 n hn x1 (1 : Int32) σ2 rσ2 (by omega)) (fun r41 h42 => ?_)
      have bb43 := wt_bd r41.1
      obtain ⟨f44, ri45, pp46⟩ := h42
      have bb47 := wt_bd (wt_gf r41.2 108 1)
      have g48 : 0 ≤ (wt_gf r41.2 108 1).toInt ∧ (wt_gf r41.2 108 1).toInt ≤ 500 := wt_R_gf ri45 0 rfl
      have bb49 := wt_bd (wt_gf σ2 108 0)
      exact ⟨(wt_fr.tr (wt_fr.tr wt_fr.rf fσ2 (fun i k h => by (try dsimp only at h); exact Or.inl (by omega)) (fun i h => h.elim)) f44 (fun i k h => by (try dsimp only at h); rcases h with h | h | h | h | h | h | h | h | h; exact Or.inl (by omega); exact Or.inr (Or.inl (by omega)); exact Or.inr (Or.inr (Or.inl (by omega))); exact Or.inr (Or.inr (Or.inr (Or.inl (by omega)))); exact Or.inr (Or.inr (Or.inr (Or.inr (Or.inl (by omega))))); exact Or.inr (Or.inr (Or.inr (Or.inr (Or.inr (Or.inl (by omega)))))); exact Or.inr (Or.inr (Or.inr (Or.inr (Or.inr (Or.inr (Or.inl (by omega))))))); exact Or.inr (Or.inr (Or.inr (Or.inr (Or.inr (Or.inr (Or.inr (Or.inl (by omega)))))))); exact Or.inr (Or.inr (Or.inr (Or.inr (Or.inr (Or.inr (Or.inr (Or.inr ((by omega)))))))))) (fun i h => by (try dsimp only at h); rcases h with h | h | h; exact Or.inl (by omega); exact Or.inr (Or.inl (by omega)); exact Or.inr (Or.inr ((by omega))))), ri45, (show ((x1.toInt < 0 ∨ (wt_gf σ 108 1).toInt < x1.toInt ∨ 200 < x1.toInt → (wt_gf r41.2 108 1).toInt = (wt_gf σ 108 1).toInt) ∧ (0 ≤ x1.toInt ∧ x1.toInt ≤ (wt_gf σ 108 1).toInt ∧ x1.toInt ≤ 200 → (wt_gf r41.2 108 1).toInt = 0)) from by omega)⟩
set_option maxRecDepth 100000 in
set_option maxHeartbeats 4000000 in
theorem wq_md_together (n : Nat) (hn : 4294967297 < n) (x1 : Int32) (σ : wt_St) (r0 : wt_RI σ) : wt_T (wp_md_together n x1 σ) (fun q => wt_fr (fun i k => (i = 108 ∧ k = 0) ∨ (i = 108 ∧ k = 54)) (fun i => i = 124 ∨ i = 287 ∨ i = 288) σ q.2 ∧ wt_RI q.2) := by
  have bb1 := wt_bd x1
  unfold wp_md_together
  obtain ⟨σ2, eσ2⟩ : ∃ z : wt_St, z = wt_sf σ 108 0 (0 : Int32) := ⟨_, rfl⟩
  rw [← eσ2]
  have fσ2 := wt_fr_sf eσ2
  have vσ2 := wt_ceq (wt_v_sf eσ2)
  have k3 : (0 : Int32).toInt = 0 := by decide
  have rσ2 := wt_RI_fno r0 eσ2 (Or.inr (by decide))
  refine wt_T_bi (wq_md_isCopies n hn x1 σ2 rσ2) (fun r4 h5 => ?_)
  obtain ⟨e6, pp7⟩ := h5
  have bb8 := wt_bd r4.1
  rw [e6]
  refine wt_T_if (fun h9 => ?_) (fun h9 => ?_)
  · skip
    have c10 := wt_ceq h9
    unfold wp_md_together_B18
    have k11 : (1 : Int32).toInt = 1 := by decide
    refine wt_T_bi (wq_md_bad n hn (1 : Int32) (1 : Int32) σ2 rσ2 (by omega)) (fun r12 h13 => ?_)
    obtain ⟨f14, ri15, pp16⟩ := h13
    have bb17 := wt_bd r12.1
    have bb18 := wt_bd (wt_gf r12.2 108 0)
    have bb19 := wt_bd (wt_gf σ2 108 0)
    refine wt_T_if (fun h20 => ?_) (fun h20 => ?_)
    · skip
      have c21 := wt_ceq h20
      refine wt_T_it (fun s : Int32 × Int32 × wt_St => wt_fr (fun i k => (i = 108 ∧ k = 54)) (fun i => i = 124 ∨ i = 287 ∨ i = 288) r12.2 s.2.2 ∧ 0 ≤ (s.2.1).toInt ∧ wt_RI s.2.2) (fun s : Int32 × Int32 × wt_St => (2147483647 - s.2.1.toInt).toNat) (fun KK22 z23 I24 hKK22 => ?_) _ _ ?_ ?_
      · skip
        obtain ⟨l25, l26, l27⟩ := I24
        unfold wp_md_together_B31
        have bb28 := wt_bd z23.2.1
        have bb29 := wt_bd (wt_gf z23.2.2 108 39)
        have g30 : 0 ≤ (wt_gf z23.2.2 108 39).toInt ∧ (wt_gf z23.2.2 108 39).toInt ≤ 8 := wt_R_gf l27 7 rfl
        have tt31 : (wt_gf z23.2.2 108 39).toInt = (wt_gf r12.2 108 39).toInt := congrArg Int32.toInt (l25.1 108 39 (by (try dsimp only); omega))
        have bb32 := wt_bd (wt_gf r12.2 108 39)
        have g33 : 0 ≤ (wt_gf r12.2 108 39).toInt ∧ (wt_gf r12.2 108 39).toInt ≤ 8 := wt_R_gf ri15 7 rfl
        have tt34 : (wt_gf r12.2 108 39).toInt = (wt_gf σ2 108 39).toInt := congrArg Int32.toInt (f14.1 108 39 (by (try dsimp only); omega))
        have bb35 := wt_bd (wt_gf σ2 108 39)
        have g36 : 0 ≤ (wt_gf σ2 108 39).toInt ∧ (wt_gf σ2 108 39).toInt ≤ 8 := wt_R_gf rσ2 7 rfl
        have tt37 : (wt_gf σ2 108 39).toInt = (wt_gf σ 108 39).toInt := congrArg Int32.toInt (fσ2.1 108 39 (by (try dsimp only); omega))
        have bb38 := wt_bd (wt_gf σ 108 39)
        have g39 : 0 ≤ (wt_gf σ 108 39).toInt ∧ (wt_gf σ 108 39).toInt ≤ 8 := wt_R_gf r0 7 rfl
        have k40 : (31 : Int32).toInt = 31 := by decide
        have bb41 := wt_bd ((wt_gf z23.2.2 108 39) &&& 31)
        have bb42 := wt_bd ((1 : Int32) <<< ((wt_gf z23.2.2 108 39) &&& 31))
        refine wt_T_if (fun h43 => ?_) (fun h43 => ?_)
        · skip
          have c44 := wt_cle h43
          refine wt_T_some ?_
          exact ⟨(wt_fr.tr (wt_fr.tr (wt_fr.tr wt_fr.rf fσ2 (fun i k h => by (try dsimp only at h); exact Or.inl (by omega)) (fun i h => h.elim)) f14 (fun i k h => by (try dsimp only at h); exact Or.inl (by omega)) (fun i h => h.elim)) l25 (fun i k h => by (try dsimp only at h); exact Or.inr ((by omega))) (fun i h => by (try dsimp only at h); rcases h with h | h | h; exact Or.inl (by omega); exact Or.inr (Or.inl (by omega)); exact Or.inr (Or.inr ((by omega))))), l27⟩
        · skip
          have c45 := wt_ncle h43
          refine wt_T_bi (wq_md_ones n hn z23.2.1 z23.2.2 l27) (fun r46 h47 => ?_)
          have e48 := h47
          have bb49 := wt_bd r46.1
          rw [e48]
          have bb50 := wt_bd z23.1
          refine wt_T_bi (wq_md_ones n hn z23.1 z23.2.2 l27) (fun r51 h52 => ?_)
          have e53 := h52
          have bb54 := wt_bd r51.1
          rw [e53]
          refine wt_T_if (fun h55 => ?_) (fun h55 => ?_)
          · skip
            have c56 := wt_clt h55
            refine wt_T_it (fun s : Int32 × Int32 × wt_St => wt_fr (fun i k => (i = 108 ∧ k = 54)) (fun i => i = 287 ∨ i = 124 ∨ i = 288) z23.2.2 s.2.2 ∧ 0 ≤ (s.2.1).toInt ∧ wt_RI s.2.2) (fun s : Int32 × Int32 × wt_St => ((wt_gf s.2.2 108 39).toInt - s.2.1.toInt + 0).toNat) (fun KK57 z58 I59 hKK57 => ?_) _ _ ?_ ?_
            · skip
              obtain ⟨l60, l61, l62⟩ := I59
              unfold wp_md_together_B61
              have bb63 := wt_bd (wt_gf z58.2.2 108 39)
              have g64 : 0 ≤ (wt_gf z58.2.2 108 39).toInt ∧ (wt_gf z58.2.2 108 39).toInt ≤ 8 := wt_R_gf l62 7 rfl
              have tt65 : (wt_gf z58.2.2 108 39).toInt = (wt_gf z23.2.2 108 39).toInt := congrArg Int32.toInt (l60.1 108 39 (by (try dsimp only); omega))
              have bb66 := wt_bd z58.2.1
              refine wt_T_if (fun h67 => ?_) (fun h67 => ?_)
              · skip
                have c68 := wt_cle h67
                unfold wp_md_together_B107
                refine wt_T_it (fun s : Int32 × wt_St => wt_fr (fun i k => False) (fun i => i = 124) z58.2.2 s.2 ∧ 0 ≤ (s.1).toInt ∧ wt_RI s.2) (fun s : Int32 × wt_St => ((338 : Int32).toInt - s.1.toInt + 0).toNat) (fun KK69 z70 I71 hKK69 => ?_) _ _ ?_ ?_
                · skip
                  obtain ⟨l72, l73, l74⟩ := I71
                  unfold wp_md_together_B110
                  have k75 : (338 : Int32).toInt = 338 := by decide
                  have bb76 := wt_bd z70.1
                  refine wt_T_if (fun h77 => ?_) (fun h77 => ?_)
                  · skip
                    have c78 := wt_cle h77
                    have bb79 := wt_bd z58.1
                    refine wt_T_if (fun h80 => ?_) (fun h80 => ?_)
                    · skip
                      have c81 := wt_ceq h80
                      unfold wp_md_together_B163
                      unfold wp_md_together_B164
                      obtain ⟨j82, j82a, j82b⟩ := wt_addI z23.2.1 (1 : Int32)
                      refine hKK22 _ ⟨(wt_fr.tr (wt_fr.tr (wt_fr.tr wt_fr.rf l25 (fun i k h => by (try dsimp only at h); exact (by omega)) (fun i h => by (try dsimp only at h); rcases h with h | h | h; exact Or.inl (by omega); exact Or.inr (Or.inl (by omega)); exact Or.inr (Or.inr ((by omega))))) l60 (fun i k h => by (try dsimp only at h); exact (by omega)) (fun i h => by (try dsimp only at h); rcases h with h | h | h; exact Or.inr (Or.inl (by omega)); exact Or.inl (by omega); exact Or.inr (Or.inr ((by omega))))) l72 (fun i k h => h.elim) (fun i h => by (try dsimp only at h); exact Or.inl (by omega))), (show 0 ≤ ((z23.2.1 + (1 : Int32))).toInt by omega), l74⟩ ?_
                      show (2147483647 - (z23.2.1 + (1 : Int32)).toInt).toNat < (2147483647 - z23.2.1.toInt).toNat
                      omega
                    · skip
                      have c83 := wt_nceq h80
                      unfold wp_md_together_B163
                      unfold wp_md_together_B164
                      obtain ⟨j84, j84a, j84b⟩ := wt_addI z23.2.1 (1 : Int32)
                      refine hKK22 _ ⟨(wt_fr.tr (wt_fr.tr (wt_fr.tr wt_fr.rf l25 (fun i k h => by (try dsimp only at h); exact (by omega)) (fun i h => by (try dsimp only at h); rcases h with h | h | h; exact Or.inl (by omega); exact Or.inr (Or.inl (by omega)); exact Or.inr (Or.inr ((by omega))))) l60 (fun i k h => by (try dsimp only at h); exact (by omega)) (fun i h => by (try dsimp only at h); rcases h with h | h | h; exact Or.inr (Or.inl (by omega)); exact Or.inl (by omega); exact Or.inr (Or.inr ((by omega))))) l72 (fun i k h => h.elim) (fun i h => by (try dsimp only at h); exact Or.inl (by omega))), (show 0 ≤ ((z23.2.1 + (1 : Int32))).toInt by omega), l74⟩ ?_
                      show (2147483647 - (z23.2.1 + (1 : Int32)).toInt).toNat < (2147483647 - z23.2.1.toInt).toNat
                      omega
                  · skip
                    have c85 := wt_ncle h77
                    refine wt_T_gd (wt_ix (by omega) (by omega)) ?_
                    have bb86 := wt_tn z70.1
                    have bb87 := wt_bd (wt_ga z70.2 124 (Int32.toNatClampNeg z70.1))
                    have k88 : (4 : Int32).toInt = 4 := by decide
                    refine wt_T_if (fun h89 => ?_) (fun h89 => ?_)
                    · skip
                      have c90 := wt_ceq h89
                      unfold wp_md_together_B146
                      refine wt_T_gd (wt_ix (by omega) (by omega)) ?_
                      obtain ⟨σ91, eσ91⟩ : ∃ z : wt_St, z = wt_sa z70.2 124 (Int32.toNatClampNeg z70.1) (-1 : Int32) := ⟨_, rfl⟩
                      rw [← eσ91]
                      have fσ91 := wt_fr_sa eσ91
                      have vσ91 := wt_ceq (wt_v_sa eσ91)
                      have rσ91 := wt_RI_no l74 eσ91 124 125 (by decide) (by decide) (by decide)
                      refine hKK69 _ ⟨(wt_fr.tr (wt_fr.tr wt_fr.rf l72 (fun i k h => h.elim) (fun i h => by (try dsimp only at h); exact (by omega))) fσ91 (fun i k h => h.elim) (fun i h => by (try dsimp only at h); exact (by omega))), (wt_nn (B := (338 : Int32)) (by omega) (by omega)), rσ91⟩ ?_
                      show ((338 : Int32).toInt - (z70.1 + (1 : Int32)).toInt + 0).toNat < ((338 : Int32).toInt - z70.1.toInt + 0).toNat
                      exact wt_mu (by omega) (by omega)
                    · skip
                      have c92 := wt_nceq h89
                      refine wt_T_gd (wt_ix (by omega) (by omega)) ?_
                      unfold wp_md_together_B146
                      refine wt_T_gd (wt_ix (by omega) (by omega)) ?_
                      obtain ⟨σ93, eσ93⟩ : ∃ z : wt_St, z = wt_sa z70.2 124 (Int32.toNatClampNeg z70.1) (wt_ga z70.2 124 (Int32.toNatClampNeg z70.1)) := ⟨_, rfl⟩
                      rw [← eσ93]
                      have fσ93 := wt_fr_sa eσ93
                      have vσ93 := wt_ceq (wt_v_sa eσ93)
                      have rσ93 := wt_RI_no l74 eσ93 124 125 (by decide) (by decide) (by decide)
                      refine hKK69 _ ⟨(wt_fr.tr (wt_fr.tr wt_fr.rf l72 (fun i k h => h.elim) (fun i h => by (try dsimp only at h); exact (by omega))) fσ93 (fun i k h => h.elim) (fun i h => by (try dsimp only at h); exact (by omega))), (wt_nn (B := (338 : Int32)) (by omega) (by omega)), rσ93⟩ ?_
                      show ((338 : Int32).toInt - (z70.1 + (1 : Int32)).toInt + 0).toNat < ((338 : Int32).toInt - z70.1.toInt + 0).toNat
                      exact wt_mu (by omega) (by omega)
                · skip
                  have k94 : (338 : Int32).toInt = 338 := by decide
                  exact ⟨wt_fr.rf, (show 0 ≤ ((0 : Int32)).toInt by omega), l62⟩
                · skip
                  have k95 : (338 : Int32).toInt = 338 := by decide
                  show ((338 : Int32).toInt - (0 : Int32).toInt + 0).toNat < n
                  omega
              · skip
                have c96 := wt_ncle h67
                have bb97 := wt_bd z58.1
                refine wt_T_if (fun h98 => ?_) (fun h98 => ?_)
                · skip
                  have c99 := wt_ceq h98
                  unfold wp_md_together_B107
                  refine wt_T_it (fun s : Int32 × wt_St => wt_fr (fun i k => False) (fun i => i = 124) z58.2.2 s.2 ∧ 0 ≤ (s.1).toInt ∧ wt_RI s.2) (fun s : Int32 × wt_St => ((338 : Int32).toInt - s.1.toInt + 0).toNat) (fun KK100 z101 I102 hKK100 => ?_) _ _ ?_ ?_
                  · skip
                    obtain ⟨l103, l104, l105⟩ := I102
                    unfold wp_md_together_B110
                    have k106 : (338 : Int32).toInt = 338 := by decide
                    have bb107 := wt_bd z101.1
                    refine wt_T_if (fun h108 => ?_) (fun h108 => ?_)
                    · skip
                      have c109 := wt_cle h108
                      refine wt_T_if (fun h110 => ?_) (fun h110 => ?_)
                      · skip
                        have c111 := wt_ceq h110
                        unfold wp_md_together_B163
                        unfold wp_md_together_B164
                        obtain ⟨j112, j112a, j112b⟩ := wt_addI z23.2.1 (1 : Int32)
                        refine hKK22 _ ⟨(wt_fr.tr (wt_fr.tr (wt_fr.tr wt_fr.rf l25 (fun i k h => by (try dsimp only at h); exact (by omega)) (fun i h => by (try dsimp only at h); rcases h with h | h | h; exact Or.inl (by omega); exact Or.inr (Or.inl (by omega)); exact Or.inr (Or.inr ((by omega))))) l60 (fun i k h => by (try dsimp only at h); exact (by omega)) (fun i h => by (try dsimp only at h); rcases h with h | h | h; exact Or.inr (Or.inl (by omega)); exact Or.inl (by omega); exact Or.inr (Or.inr ((by omega))))) l103 (fun i k h => h.elim) (fun i h => by (try dsimp only at h); exact Or.inl (by omega))), (show 0 ≤ ((z23.2.1 + (1 : Int32))).toInt by omega), l105⟩ ?_
                        show (2147483647 - (z23.2.1 + (1 : Int32)).toInt).toNat < (2147483647 - z23.2.1.toInt).toNat
                        omega
                      · skip
                        have c113 := wt_nceq h110
                        unfold wp_md_together_B163
                        unfold wp_md_together_B164
                        obtain ⟨j114, j114a, j114b⟩ := wt_addI z23.2.1 (1 : Int32)
                        refine hKK22 _ ⟨(wt_fr.tr (wt_fr.tr (wt_fr.tr wt_fr.rf l25 (fun i k h => by (try dsimp only at h); exact (by omega)) (fun i h => by (try dsimp only at h); rcases h with h | h | h; exact Or.inl (by omega); exact Or.inr (Or.inl (by omega)); exact Or.inr (Or.inr ((by omega))))) l60 (fun i k h => by (try dsimp only at h); exact (by omega)) (fun i h => by (try dsimp only at h); rcases h with h | h | h; exact Or.inr (Or.inl (by omega)); exact Or.inl (by omega); exact Or.inr (Or.inr ((by omega))))) l103 (fun i k h => h.elim) (fun i h => by (try dsimp only at h); exact Or.inl (by omega))), (show 0 ≤ ((z23.2.1 + (1 : Int32))).toInt by omega), l105⟩ ?_
                        show (2147483647 - (z23.2.1 + (1 : Int32)).toInt).toNat < (2147483647 - z23.2.1.toInt).toNat
                        omega
                    · skip
                      have c115 := wt_ncle h108
                      refine wt_T_gd (wt_ix (by omega) (by omega)) ?_
                      have bb116 := wt_tn z101.1
                      have bb117 := wt_bd (wt_ga z101.2 124 (Int32.toNatClampNeg z101.1))
                      have k118 : (4 : Int32).toInt = 4 := by decide
                      refine wt_T_if (fun h119 => ?_) (fun h119 => ?_)
                      · skip
                        have c120 := wt_ceq h119
                        unfold wp_md_together_B146
                        refine wt_T_gd (wt_ix (by omega) (by omega)) ?_
                        obtain ⟨σ121, eσ121⟩ : ∃ z : wt_St, z = wt_sa z101.2 124 (Int32.toNatClampNeg z101.1) (-1 : Int32) := ⟨_, rfl⟩
                        rw [← eσ121]
                        have fσ121 := wt_fr_sa eσ121
                        have vσ121 := wt_ceq (wt_v_sa eσ121)
                        have rσ121 := wt_RI_no l105 eσ121 124 125 (by decide) (by decide) (by decide)
                        refine hKK100 _ ⟨(wt_fr.tr (wt_fr.tr wt_fr.rf l103 (fun i k h => h.elim) (fun i h => by (try dsimp only at h); exact (by omega))) fσ121 (fun i k h => h.elim) (fun i h => by (try dsimp only at h); exact (by omega))), (wt_nn (B := (338 : Int32)) (by omega) (by omega)), rσ121⟩ ?_
                        show ((338 : Int32).toInt - (z101.1 + (1 : Int32)).toInt + 0).toNat < ((338 : Int32).toInt - z101.1.toInt + 0).toNat
                        exact wt_mu (by omega) (by omega)
                      · skip
                        have c122 := wt_nceq h119
                        refine wt_T_gd (wt_ix (by omega) (by omega)) ?_
                        unfold wp_md_together_B146
                        refine wt_T_gd (wt_ix (by omega) (by omega)) ?_
                        obtain ⟨σ123, eσ123⟩ : ∃ z : wt_St, z = wt_sa z101.2 124 (Int32.toNatClampNeg z101.1) (wt_ga z101.2 124 (Int32.toNatClampNeg z101.1)) := ⟨_, rfl⟩
                        rw [← eσ123]
                        have fσ123 := wt_fr_sa eσ123
                        have vσ123 := wt_ceq (wt_v_sa eσ123)
                        have rσ123 := wt_RI_no l105 eσ123 124 125 (by decide) (by decide) (by decide)
                        refine hKK100 _ ⟨(wt_fr.tr (wt_fr.tr wt_fr.rf l103 (fun i k h => h.elim) (fun i h => by (try dsimp only at h); exact (by omega))) fσ123 (fun i k h => h.elim) (fun i h => by (try dsimp only at h); exact (by omega))), (wt_nn (B := (338 : Int32)) (by omega) (by omega)), rσ123⟩ ?_
                        show ((338 : Int32).toInt - (z101.1 + (1 : Int32)).toInt + 0).toNat < ((338 : Int32).toInt - z101.1.toInt + 0).toNat
                        exact wt_mu (by omega) (by omega)
                  · skip
                    have k124 : (338 : Int32).toInt = 338 := by decide
                    exact ⟨wt_fr.rf, (show 0 ≤ ((0 : Int32)).toInt by omega), l62⟩
                  · skip
                    have k125 : (338 : Int32).toInt = 338 := by decide
                    show ((338 : Int32).toInt - (0 : Int32).toInt + 0).toNat < n
                    omega
                · skip
                  have c126 := wt_nceq h98
                  have bb127 := wt_bd (z58.2.1 &&& 31)
                  have bb128 := wt_bd (z23.2.1 >>> (z58.2.1 &&& 31))
                  have bb129 := wt_bd ((z23.2.1 >>> (z58.2.1 &&& 31)) &&& (1 : Int32))
                  refine wt_T_if (fun h130 => ?_) (fun h130 => ?_)
                  · skip
                    have c131 := wt_ceq h130
                    unfold wp_md_together_B101
                    refine hKK57 _ ⟨(wt_fr.tr wt_fr.rf l60 (fun i k h => by (try dsimp only at h); exact (by omega)) (fun i h => by (try dsimp only at h); rcases h with h | h | h; exact Or.inl (by omega); exact Or.inr (Or.inl (by omega)); exact Or.inr (Or.inr ((by omega))))), (wt_nn (B := wt_gf z58.2.2 108 39) (by omega) (by omega)), l62⟩ ?_
                    show ((wt_gf z58.2.2 108 39).toInt - (z58.2.1 + (1 : Int32)).toInt + 0).toNat < ((wt_gf z58.2.2 108 39).toInt - z58.2.1.toInt + 0).toNat
                    exact wt_mu (by omega) (by omega)
                  · skip
                    have c132 := wt_nceq h130
                    refine wt_T_bi (wq_md_needsText n hn z58.2.1 z58.2.2 l62 (by omega) (by omega)) (fun r133 h134 => ?_)
                    obtain ⟨f135, ri136, pp137⟩ := h134
                    have k138 : (4 : Int32).toInt = 4 := by decide
                    refine wt_T_bi (wq_md_takes n hn x1 (4 : Int32) r133 ri136 (by omega) (by omega) pp137.1) (fun r139 h140 => ?_)
                    obtain ⟨f141, ri142, pp143⟩ := h140
                    have bb144 := wt_bd r139.1
                    unfold wp_md_together_B101
                    have bb145 := wt_bd (wt_gf r139.2 108 39)
                    have g146 : 0 ≤ (wt_gf r139.2 108 39).toInt ∧ (wt_gf r139.2 108 39).toInt ≤ 8 := wt_R_gf ri142 7 rfl
                    have tt147 : (wt_gf r139.2 108 39).toInt = (wt_gf r133 108 39).toInt := congrArg Int32.toInt (f141.1 108 39 (by (try dsimp only); omega))
                    have bb148 := wt_bd (wt_gf r133 108 39)
                    have g149 : 0 ≤ (wt_gf r133 108 39).toInt ∧ (wt_gf r133 108 39).toInt ≤ 8 := wt_R_gf ri136 7 rfl
                    have tt150 : (wt_gf r133 108 39).toInt = (wt_gf z58.2.2 108 39).toInt := congrArg Int32.toInt (f135.1 108 39 (fun z => z))
                    refine hKK57 _ ⟨(wt_fr.tr (wt_fr.tr (wt_fr.tr wt_fr.rf l60 (fun i k h => by (try dsimp only at h); exact (by omega)) (fun i h => by (try dsimp only at h); rcases h with h | h | h; exact Or.inl (by omega); exact Or.inr (Or.inl (by omega)); exact Or.inr (Or.inr ((by omega))))) f135 (fun i k h => h.elim) (fun i h => by (try dsimp only at h); exact Or.inl (by omega))) f141 (fun i k h => by (try dsimp only at h); exact (by omega)) (fun i h => by (try dsimp only at h); rcases h with h | h; exact Or.inr (Or.inl (by omega)); exact Or.inr (Or.inr ((by omega))))), (wt_nn (B := wt_gf z58.2.2 108 39) (by omega) (by omega)), ri142⟩ ?_
                    show ((wt_gf r139.2 108 39).toInt - (z58.2.1 + (1 : Int32)).toInt + 0).toNat < ((wt_gf z58.2.2 108 39).toInt - z58.2.1.toInt + 0).toNat
                    exact wt_mu (by omega) (by omega)
            · skip
              exact ⟨wt_fr.rf, (show 0 ≤ ((0 : Int32)).toInt by omega), l27⟩
            · skip
              show ((wt_gf z23.2.2 108 39).toInt - (0 : Int32).toInt + 0).toNat < n
              omega
          · skip
            have c151 := wt_ncl h55
            unfold wp_md_together_B164
            obtain ⟨j152, j152a, j152b⟩ := wt_addI z23.2.1 (1 : Int32)
            refine hKK22 _ ⟨(wt_fr.tr wt_fr.rf l25 (fun i k h => by (try dsimp only at h); exact (by omega)) (fun i h => by (try dsimp only at h); rcases h with h | h | h; exact Or.inl (by omega); exact Or.inr (Or.inl (by omega)); exact Or.inr (Or.inr ((by omega))))), (show 0 ≤ ((z23.2.1 + (1 : Int32))).toInt by omega), l27⟩ ?_
            show (2147483647 - (z23.2.1 + (1 : Int32)).toInt).toNat < (2147483647 - z23.2.1.toInt).toNat
            omega
      · skip
        exact ⟨wt_fr.rf, (show 0 ≤ ((0 : Int32)).toInt by omega), ri15⟩
      · skip
        show (2147483647 - (0 : Int32).toInt).toNat < n
        omega
    · skip
      have c153 := wt_nceq h20
      refine wt_T_some ?_
      exact ⟨(wt_fr.tr (wt_fr.tr wt_fr.rf fσ2 (fun i k h => by (try dsimp only at h); exact Or.inl (by omega)) (fun i h => h.elim)) f14 (fun i k h => by (try dsimp only at h); exact Or.inl (by omega)) (fun i h => h.elim)), ri15⟩
  · skip
    have c154 := wt_nceq h9
    unfold wp_md_together_B18
    have k155 : (1 : Int32).toInt = 1 := by decide
    refine wt_T_bi (wq_md_bad n hn (0 : Int32) (1 : Int32) σ2 rσ2 (by omega)) (fun r156 h157 => ?_)
    obtain ⟨f158, ri159, pp160⟩ := h157
    have bb161 := wt_bd r156.1
    have bb162 := wt_bd (wt_gf r156.2 108 0)
    have bb163 := wt_bd (wt_gf σ2 108 0)
    refine wt_T_if (fun h164 => ?_) (fun h164 => ?_)
    · skip
      have c165 := wt_ceq h164
      refine wt_T_it (fun s : Int32 × Int32 × wt_St => wt_fr (fun i k => (i = 108 ∧ k = 54)) (fun i => i = 124 ∨ i = 287 ∨ i = 288) r156.2 s.2.2 ∧ 0 ≤ (s.2.1).toInt ∧ wt_RI s.2.2) (fun s : Int32 × Int32 × wt_St => (2147483647 - s.2.1.toInt).toNat) (fun KK166 z167 I168 hKK166 => ?_) _ _ ?_ ?_
      · skip
        obtain ⟨l169, l170, l171⟩ := I168
        unfold wp_md_together_B31
        have bb172 := wt_bd z167.2.1
        have bb173 := wt_bd (wt_gf z167.2.2 108 39)
        have g174 : 0 ≤ (wt_gf z167.2.2 108 39).toInt ∧ (wt_gf z167.2.2 108 39).toInt ≤ 8 := wt_R_gf l171 7 rfl
        have tt175 : (wt_gf z167.2.2 108 39).toInt = (wt_gf r156.2 108 39).toInt := congrArg Int32.toInt (l169.1 108 39 (by (try dsimp only); omega))
        have bb176 := wt_bd (wt_gf r156.2 108 39)
        have g177 : 0 ≤ (wt_gf r156.2 108 39).toInt ∧ (wt_gf r156.2 108 39).toInt ≤ 8 := wt_R_gf ri159 7 rfl
        have tt178 : (wt_gf r156.2 108 39).toInt = (wt_gf σ2 108 39).toInt := congrArg Int32.toInt (f158.1 108 39 (by (try dsimp only); omega))
        have bb179 := wt_bd (wt_gf σ2 108 39)
        have g180 : 0 ≤ (wt_gf σ2 108 39).toInt ∧ (wt_gf σ2 108 39).toInt ≤ 8 := wt_R_gf rσ2 7 rfl
        have tt181 : (wt_gf σ2 108 39).toInt = (wt_gf σ 108 39).toInt := congrArg Int32.toInt (fσ2.1 108 39 (by (try dsimp only); omega))
        have bb182 := wt_bd (wt_gf σ 108 39)
        have g183 : 0 ≤ (wt_gf σ 108 39).toInt ∧ (wt_gf σ 108 39).toInt ≤ 8 := wt_R_gf r0 7 rfl
        have k184 : (31 : Int32).toInt = 31 := by decide
        have bb185 := wt_bd ((wt_gf z167.2.2 108 39) &&& 31)
        have bb186 := wt_bd ((1 : Int32) <<< ((wt_gf z167.2.2 108 39) &&& 31))
        refine wt_T_if (fun h187 => ?_) (fun h187 => ?_)
        · skip
          have c188 := wt_cle h187
          refine wt_T_some ?_
          exact ⟨(wt_fr.tr (wt_fr.tr (wt_fr.tr wt_fr.rf fσ2 (fun i k h => by (try dsimp only at h); exact Or.inl (by omega)) (fun i h => h.elim)) f158 (fun i k h => by (try dsimp only at h); exact Or.inl (by omega)) (fun i h => h.elim)) l169 (fun i k h => by (try dsimp only at h); exact Or.inr ((by omega))) (fun i h => by (try dsimp only at h); rcases h with h | h | h; exact Or.inl (by omega); exact Or.inr (Or.inl (by omega)); exact Or.inr (Or.inr ((by omega))))), l171⟩
        · skip
          have c189 := wt_ncle h187
          refine wt_T_bi (wq_md_ones n hn z167.2.1 z167.2.2 l171) (fun r190 h191 => ?_)
          have e192 := h191
          have bb193 := wt_bd r190.1
          rw [e192]
          have bb194 := wt_bd z167.1
          refine wt_T_bi (wq_md_ones n hn z167.1 z167.2.2 l171) (fun r195 h196 => ?_)
          have e197 := h196
          have bb198 := wt_bd r195.1
          rw [e197]
          refine wt_T_if (fun h199 => ?_) (fun h199 => ?_)
          · skip
            have c200 := wt_clt h199
            refine wt_T_it (fun s : Int32 × Int32 × wt_St => wt_fr (fun i k => (i = 108 ∧ k = 54)) (fun i => i = 287 ∨ i = 124 ∨ i = 288) z167.2.2 s.2.2 ∧ 0 ≤ (s.2.1).toInt ∧ wt_RI s.2.2) (fun s : Int32 × Int32 × wt_St => ((wt_gf s.2.2 108 39).toInt - s.2.1.toInt + 0).toNat) (fun KK201 z202 I203 hKK201 => ?_) _ _ ?_ ?_
            · skip
              obtain ⟨l204, l205, l206⟩ := I203
              unfold wp_md_together_B61
              have bb207 := wt_bd (wt_gf z202.2.2 108 39)
              have g208 : 0 ≤ (wt_gf z202.2.2 108 39).toInt ∧ (wt_gf z202.2.2 108 39).toInt ≤ 8 := wt_R_gf l206 7 rfl
              have tt209 : (wt_gf z202.2.2 108 39).toInt = (wt_gf z167.2.2 108 39).toInt := congrArg Int32.toInt (l204.1 108 39 (by (try dsimp only); omega))
              have bb210 := wt_bd z202.2.1
              refine wt_T_if (fun h211 => ?_) (fun h211 => ?_)
              · skip
                have c212 := wt_cle h211
                unfold wp_md_together_B107
                refine wt_T_it (fun s : Int32 × wt_St => wt_fr (fun i k => False) (fun i => i = 124) z202.2.2 s.2 ∧ 0 ≤ (s.1).toInt ∧ wt_RI s.2) (fun s : Int32 × wt_St => ((338 : Int32).toInt - s.1.toInt + 0).toNat) (fun KK213 z214 I215 hKK213 => ?_) _ _ ?_ ?_
                · skip
                  obtain ⟨l216, l217, l218⟩ := I215
                  unfold wp_md_together_B110
                  have k219 : (338 : Int32).toInt = 338 := by decide
                  have bb220 := wt_bd z214.1
                  refine wt_T_if (fun h221 => ?_) (fun h221 => ?_)
                  · skip
                    have c222 := wt_cle h221
                    have bb223 := wt_bd z202.1
                    refine wt_T_if (fun h224 => ?_) (fun h224 => ?_)
                    · skip
                      have c225 := wt_ceq h224
                      unfold wp_md_together_B163
                      unfold wp_md_together_B164
                      obtain ⟨j226, j226a, j226b⟩ := wt_addI z167.2.1 (1 : Int32)
                      refine hKK166 _ ⟨(wt_fr.tr (wt_fr.tr (wt_fr.tr wt_fr.rf l169 (fun i k h => by (try dsimp only at h); exact (by omega)) (fun i h => by (try dsimp only at h); rcases h with h | h | h; exact Or.inl (by omega); exact Or.inr (Or.inl (by omega)); exact Or.inr (Or.inr ((by omega))))) l204 (fun i k h => by (try dsimp only at h); exact (by omega)) (fun i h => by (try dsimp only at h); rcases h with h | h | h; exact Or.inr (Or.inl (by omega)); exact Or.inl (by omega); exact Or.inr (Or.inr ((by omega))))) l216 (fun i k h => h.elim) (fun i h => by (try dsimp only at h); exact Or.inl (by omega))), (show 0 ≤ ((z167.2.1 + (1 : Int32))).toInt by omega), l218⟩ ?_
                      show (2147483647 - (z167.2.1 + (1 : Int32)).toInt).toNat < (2147483647 - z167.2.1.toInt).toNat
                      omega
                    · skip
                      have c227 := wt_nceq h224
                      unfold wp_md_together_B163
                      unfold wp_md_together_B164
                      obtain ⟨j228, j228a, j228b⟩ := wt_addI z167.2.1 (1 : Int32)
                      refine hKK166 _ ⟨(wt_fr.tr (wt_fr.tr (wt_fr.tr wt_fr.rf l169 (fun i k h => by (try dsimp only at h); exact (by omega)) (fun i h => by (try dsimp only at h); rcases h with h | h | h; exact Or.inl (by omega); exact Or.inr (Or.inl (by omega)); exact Or.inr (Or.inr ((by omega))))) l204 (fun i k h => by (try dsimp only at h); exact (by omega)) (fun i h => by (try dsimp only at h); rcases h with h | h | h; exact Or.inr (Or.inl (by omega)); exact Or.inl (by omega); exact Or.inr (Or.inr ((by omega))))) l216 (fun i k h => h.elim) (fun i h => by (try dsimp only at h); exact Or.inl (by omega))), (show 0 ≤ ((z167.2.1 + (1 : Int32))).toInt by omega), l218⟩ ?_
                      show (2147483647 - (z167.2.1 + (1 : Int32)).toInt).toNat < (2147483647 - z167.2.1.toInt).toNat
                      omega
                  · skip
                    have c229 := wt_ncle h221
                    refine wt_T_gd (wt_ix (by omega) (by omega)) ?_
                    have bb230 := wt_tn z214.1
                    have bb231 := wt_bd (wt_ga z214.2 124 (Int32.toNatClampNeg z214.1))
                    have k232 : (4 : Int32).toInt = 4 := by decide
                    refine wt_T_if (fun h233 => ?_) (fun h233 => ?_)
                    · skip
                      have c234 := wt_ceq h233
                      unfold wp_md_together_B146
                      refine wt_T_gd (wt_ix (by omega) (by omega)) ?_
                      obtain ⟨σ235, eσ235⟩ : ∃ z : wt_St, z = wt_sa z214.2 124 (Int32.toNatClampNeg z214.1) (-1 : Int32) := ⟨_, rfl⟩
                      rw [← eσ235]
                      have fσ235 := wt_fr_sa eσ235
                      have vσ235 := wt_ceq (wt_v_sa eσ235)
                      have rσ235 := wt_RI_no l218 eσ235 124 125 (by decide) (by decide) (by decide)
                      refine hKK213 _ ⟨(wt_fr.tr (wt_fr.tr wt_fr.rf l216 (fun i k h => h.elim) (fun i h => by (try dsimp only at h); exact (by omega))) fσ235 (fun i k h => h.elim) (fun i h => by (try dsimp only at h); exact (by omega))), (wt_nn (B := (338 : Int32)) (by omega) (by omega)), rσ235⟩ ?_
                      show ((338 : Int32).toInt - (z214.1 + (1 : Int32)).toInt + 0).toNat < ((338 : Int32).toInt - z214.1.toInt + 0).toNat
                      exact wt_mu (by omega) (by omega)
                    · skip
                      have c236 := wt_nceq h233
                      refine wt_T_gd (wt_ix (by omega) (by omega)) ?_
                      unfold wp_md_together_B146
                      refine wt_T_gd (wt_ix (by omega) (by omega)) ?_
                      obtain ⟨σ237, eσ237⟩ : ∃ z : wt_St, z = wt_sa z214.2 124 (Int32.toNatClampNeg z214.1) (wt_ga z214.2 124 (Int32.toNatClampNeg z214.1)) := ⟨_, rfl⟩
                      rw [← eσ237]
                      have fσ237 := wt_fr_sa eσ237
                      have vσ237 := wt_ceq (wt_v_sa eσ237)
                      have rσ237 := wt_RI_no l218 eσ237 124 125 (by decide) (by decide) (by decide)
                      refine hKK213 _ ⟨(wt_fr.tr (wt_fr.tr wt_fr.rf l216 (fun i k h => h.elim) (fun i h => by (try dsimp only at h); exact (by omega))) fσ237 (fun i k h => h.elim) (fun i h => by (try dsimp only at h); exact (by omega))), (wt_nn (B := (338 : Int32)) (by omega) (by omega)), rσ237⟩ ?_
                      show ((338 : Int32).toInt - (z214.1 + (1 : Int32)).toInt + 0).toNat < ((338 : Int32).toInt - z214.1.toInt + 0).toNat
                      exact wt_mu (by omega) (by omega)
                · skip
                  have k238 : (338 : Int32).toInt = 338 := by decide
                  exact ⟨wt_fr.rf, (show 0 ≤ ((0 : Int32)).toInt by omega), l206⟩
                · skip
                  have k239 : (338 : Int32).toInt = 338 := by decide
                  show ((338 : Int32).toInt - (0 : Int32).toInt + 0).toNat < n
                  omega
              · skip
                have c240 := wt_ncle h211
                have bb241 := wt_bd z202.1
                refine wt_T_if (fun h242 => ?_) (fun h242 => ?_)
                · skip
                  have c243 := wt_ceq h242
                  unfold wp_md_together_B107
                  refine wt_T_it (fun s : Int32 × wt_St => wt_fr (fun i k => False) (fun i => i = 124) z202.2.2 s.2 ∧ 0 ≤ (s.1).toInt ∧ wt_RI s.2) (fun s : Int32 × wt_St => ((338 : Int32).toInt - s.1.toInt + 0).toNat) (fun KK244 z245 I246 hKK244 => ?_) _ _ ?_ ?_
                  · skip
                    obtain ⟨l247, l248, l249⟩ := I246
                    unfold wp_md_together_B110
                    have k250 : (338 : Int32).toInt = 338 := by decide
                    have bb251 := wt_bd z245.1
                    refine wt_T_if (fun h252 => ?_) (fun h252 => ?_)
                    · skip
                      have c253 := wt_cle h252
                      refine wt_T_if (fun h254 => ?_) (fun h254 => ?_)
                      · skip
                        have c255 := wt_ceq h254
                        unfold wp_md_together_B163
                        unfold wp_md_together_B164
                        obtain ⟨j256, j256a, j256b⟩ := wt_addI z167.2.1 (1 : Int32)
                        refine hKK166 _ ⟨(wt_fr.tr (wt_fr.tr (wt_fr.tr wt_fr.rf l169 (fun i k h => by (try dsimp only at h); exact (by omega)) (fun i h => by (try dsimp only at h); rcases h with h | h | h; exact Or.inl (by omega); exact Or.inr (Or.inl (by omega)); exact Or.inr (Or.inr ((by omega))))) l204 (fun i k h => by (try dsimp only at h); exact (by omega)) (fun i h => by (try dsimp only at h); rcases h with h | h | h; exact Or.inr (Or.inl (by omega)); exact Or.inl (by omega); exact Or.inr (Or.inr ((by omega))))) l247 (fun i k h => h.elim) (fun i h => by (try dsimp only at h); exact Or.inl (by omega))), (show 0 ≤ ((z167.2.1 + (1 : Int32))).toInt by omega), l249⟩ ?_
                        show (2147483647 - (z167.2.1 + (1 : Int32)).toInt).toNat < (2147483647 - z167.2.1.toInt).toNat
                        omega
                      · skip
                        have c257 := wt_nceq h254
                        unfold wp_md_together_B163
                        unfold wp_md_together_B164
                        obtain ⟨j258, j258a, j258b⟩ := wt_addI z167.2.1 (1 : Int32)
                        refine hKK166 _ ⟨(wt_fr.tr (wt_fr.tr (wt_fr.tr wt_fr.rf l169 (fun i k h => by (try dsimp only at h); exact (by omega)) (fun i h => by (try dsimp only at h); rcases h with h | h | h; exact Or.inl (by omega); exact Or.inr (Or.inl (by omega)); exact Or.inr (Or.inr ((by omega))))) l204 (fun i k h => by (try dsimp only at h); exact (by omega)) (fun i h => by (try dsimp only at h); rcases h with h | h | h; exact Or.inr (Or.inl (by omega)); exact Or.inl (by omega); exact Or.inr (Or.inr ((by omega))))) l247 (fun i k h => h.elim) (fun i h => by (try dsimp only at h); exact Or.inl (by omega))), (show 0 ≤ ((z167.2.1 + (1 : Int32))).toInt by omega), l249⟩ ?_
                        show (2147483647 - (z167.2.1 + (1 : Int32)).toInt).toNat < (2147483647 - z167.2.1.toInt).toNat
                        omega
                    · skip
                      have c259 := wt_ncle h252
                      refine wt_T_gd (wt_ix (by omega) (by omega)) ?_
                      have bb260 := wt_tn z245.1
                      have bb261 := wt_bd (wt_ga z245.2 124 (Int32.toNatClampNeg z245.1))
                      have k262 : (4 : Int32).toInt = 4 := by decide
                      refine wt_T_if (fun h263 => ?_) (fun h263 => ?_)
                      · skip
                        have c264 := wt_ceq h263
                        unfold wp_md_together_B146
                        refine wt_T_gd (wt_ix (by omega) (by omega)) ?_
                        obtain ⟨σ265, eσ265⟩ : ∃ z : wt_St, z = wt_sa z245.2 124 (Int32.toNatClampNeg z245.1) (-1 : Int32) := ⟨_, rfl⟩
                        rw [← eσ265]
                        have fσ265 := wt_fr_sa eσ265
                        have vσ265 := wt_ceq (wt_v_sa eσ265)
                        have rσ265 := wt_RI_no l249 eσ265 124 125 (by decide) (by decide) (by decide)
                        refine hKK244 _ ⟨(wt_fr.tr (wt_fr.tr wt_fr.rf l247 (fun i k h => h.elim) (fun i h => by (try dsimp only at h); exact (by omega))) fσ265 (fun i k h => h.elim) (fun i h => by (try dsimp only at h); exact (by omega))), (wt_nn (B := (338 : Int32)) (by omega) (by omega)), rσ265⟩ ?_
                        show ((338 : Int32).toInt - (z245.1 + (1 : Int32)).toInt + 0).toNat < ((338 : Int32).toInt - z245.1.toInt + 0).toNat
                        exact wt_mu (by omega) (by omega)
                      · skip
                        have c266 := wt_nceq h263
                        refine wt_T_gd (wt_ix (by omega) (by omega)) ?_
                        unfold wp_md_together_B146
                        refine wt_T_gd (wt_ix (by omega) (by omega)) ?_
                        obtain ⟨σ267, eσ267⟩ : ∃ z : wt_St, z = wt_sa z245.2 124 (Int32.toNatClampNeg z245.1) (wt_ga z245.2 124 (Int32.toNatClampNeg z245.1)) := ⟨_, rfl⟩
                        rw [← eσ267]
                        have fσ267 := wt_fr_sa eσ267
                        have vσ267 := wt_ceq (wt_v_sa eσ267)
                        have rσ267 := wt_RI_no l249 eσ267 124 125 (by decide) (by decide) (by decide)
                        refine hKK244 _ ⟨(wt_fr.tr (wt_fr.tr wt_fr.rf l247 (fun i k h => h.elim) (fun i h => by (try dsimp only at h); exact (by omega))) fσ267 (fun i k h => h.elim) (fun i h => by (try dsimp only at h); exact (by omega))), (wt_nn (B := (338 : Int32)) (by omega) (by omega)), rσ267⟩ ?_
                        show ((338 : Int32).toInt - (z245.1 + (1 : Int32)).toInt + 0).toNat < ((338 : Int32).toInt - z245.1.toInt + 0).toNat
                        exact wt_mu (by omega) (by omega)
                  · skip
                    have k268 : (338 : Int32).toInt = 338 := by decide
                    exact ⟨wt_fr.rf, (show 0 ≤ ((0 : Int32)).toInt by omega), l206⟩
                  · skip
                    have k269 : (338 : Int32).toInt = 338 := by decide
                    show ((338 : Int32).toInt - (0 : Int32).toInt + 0).toNat < n
                    omega
                · skip
                  have c270 := wt_nceq h242
                  have bb271 := wt_bd (z202.2.1 &&& 31)
                  have bb272 := wt_bd (z167.2.1 >>> (z202.2.1 &&& 31))
                  have bb273 := wt_bd ((z167.2.1 >>> (z202.2.1 &&& 31)) &&& (1 : Int32))
                  refine wt_T_if (fun h274 => ?_) (fun h274 => ?_)
                  · skip
                    have c275 := wt_ceq h274
                    unfold wp_md_together_B101
                    refine hKK201 _ ⟨(wt_fr.tr wt_fr.rf l204 (fun i k h => by (try dsimp only at h); exact (by omega)) (fun i h => by (try dsimp only at h); rcases h with h | h | h; exact Or.inl (by omega); exact Or.inr (Or.inl (by omega)); exact Or.inr (Or.inr ((by omega))))), (wt_nn (B := wt_gf z202.2.2 108 39) (by omega) (by omega)), l206⟩ ?_
                    show ((wt_gf z202.2.2 108 39).toInt - (z202.2.1 + (1 : Int32)).toInt + 0).toNat < ((wt_gf z202.2.2 108 39).toInt - z202.2.1.toInt + 0).toNat
                    exact wt_mu (by omega) (by omega)
                  · skip
                    have c276 := wt_nceq h274
                    refine wt_T_bi (wq_md_needsText n hn z202.2.1 z202.2.2 l206 (by omega) (by omega)) (fun r277 h278 => ?_)
                    obtain ⟨f279, ri280, pp281⟩ := h278
                    have k282 : (4 : Int32).toInt = 4 := by decide
                    refine wt_T_bi (wq_md_takes n hn x1 (4 : Int32) r277 ri280 (by omega) (by omega) pp281.1) (fun r283 h284 => ?_)
                    obtain ⟨f285, ri286, pp287⟩ := h284
                    have bb288 := wt_bd r283.1
                    unfold wp_md_together_B101
                    have bb289 := wt_bd (wt_gf r283.2 108 39)
                    have g290 : 0 ≤ (wt_gf r283.2 108 39).toInt ∧ (wt_gf r283.2 108 39).toInt ≤ 8 := wt_R_gf ri286 7 rfl
                    have tt291 : (wt_gf r283.2 108 39).toInt = (wt_gf r277 108 39).toInt := congrArg Int32.toInt (f285.1 108 39 (by (try dsimp only); omega))
                    have bb292 := wt_bd (wt_gf r277 108 39)
                    have g293 : 0 ≤ (wt_gf r277 108 39).toInt ∧ (wt_gf r277 108 39).toInt ≤ 8 := wt_R_gf ri280 7 rfl
                    have tt294 : (wt_gf r277 108 39).toInt = (wt_gf z202.2.2 108 39).toInt := congrArg Int32.toInt (f279.1 108 39 (fun z => z))
                    refine hKK201 _ ⟨(wt_fr.tr (wt_fr.tr (wt_fr.tr wt_fr.rf l204 (fun i k h => by (try dsimp only at h); exact (by omega)) (fun i h => by (try dsimp only at h); rcases h with h | h | h; exact Or.inl (by omega); exact Or.inr (Or.inl (by omega)); exact Or.inr (Or.inr ((by omega))))) f279 (fun i k h => h.elim) (fun i h => by (try dsimp only at h); exact Or.inl (by omega))) f285 (fun i k h => by (try dsimp only at h); exact (by omega)) (fun i h => by (try dsimp only at h); rcases h with h | h; exact Or.inr (Or.inl (by omega)); exact Or.inr (Or.inr ((by omega))))), (wt_nn (B := wt_gf z202.2.2 108 39) (by omega) (by omega)), ri286⟩ ?_
                    show ((wt_gf r283.2 108 39).toInt - (z202.2.1 + (1 : Int32)).toInt + 0).toNat < ((wt_gf z202.2.2 108 39).toInt - z202.2.1.toInt + 0).toNat
                    exact wt_mu (by omega) (by omega)
            · skip
              exact ⟨wt_fr.rf, (show 0 ≤ ((0 : Int32)).toInt by omega), l171⟩
            · skip
              show ((wt_gf z167.2.2 108 39).toInt - (0 : Int32).toInt + 0).toNat < n
              omega
          · skip
            have c295 := wt_ncl h199
            unfold wp_md_together_B164
            obtain ⟨j296, j296a, j296b⟩ := wt_addI z167.2.1 (1 : Int32)
            refine hKK166 _ ⟨(wt_fr.tr wt_fr.rf l169 (fun i k h => by (try dsimp only at h); exact (by omega)) (fun i h => by (try dsimp only at h); rcases h with h | h | h; exact Or.inl (by omega); exact Or.inr (Or.inl (by omega)); exact Or.inr (Or.inr ((by omega))))), (show 0 ≤ ((z167.2.1 + (1 : Int32))).toInt by omega), l171⟩ ?_
            show (2147483647 - (z167.2.1 + (1 : Int32)).toInt).toNat < (2147483647 - z167.2.1.toInt).toNat
            omega
      · skip
        exact ⟨wt_fr.rf, (show 0 ≤ ((0 : Int32)).toInt by omega), ri159⟩
      · skip
        show (2147483647 - (0 : Int32).toInt).toNat < n
        omega
    · skip
      have c297 := wt_nceq h164
      refine wt_T_some ?_
      exact ⟨(wt_fr.tr (wt_fr.tr wt_fr.rf fσ2 (fun i k h => by (try dsimp only at h); exact Or.inl (by omega)) (fun i h => h.elim)) f158 (fun i k h => by (try dsimp only at h); exact Or.inl (by omega)) (fun i h => h.elim)), ri159⟩
set_option maxRecDepth 100000 in
set_option maxHeartbeats 4000000 in
theorem wq_md_told (n : Nat) (hn : 4294967297 < n) (x1 : Int32) (σ : wt_St) (r0 : wt_RI σ) : wt_T (wp_md_told n x1 σ) (fun q => wt_fr (fun i k => (i = 108 ∧ k = 0)) (fun i => False) σ q.2 ∧ wt_RI q.2) := by
  have bb1 := wt_bd x1
  unfold wp_md_told
  obtain ⟨σ2, eσ2⟩ : ∃ z : wt_St, z = wt_sf σ 108 0 (0 : Int32) := ⟨_, rfl⟩
  rw [← eσ2]
  have fσ2 := wt_fr_sf eσ2
  have vσ2 := wt_ceq (wt_v_sf eσ2)
  have k3 : (0 : Int32).toInt = 0 := by decide
  have rσ2 := wt_RI_fno r0 eσ2 (Or.inr (by decide))
  have k4 : (7 : Int32).toInt = 7 := by decide
  refine wt_T_bi (wq_md_in n hn x1 (0 : Int32) (7 : Int32) σ2 rσ2) (fun r5 h6 => ?_)
  obtain ⟨e7, pp8⟩ := h6
  have bb9 := wt_bd r5.1
  rw [e7]
  refine wt_T_if (fun h10 => ?_) (fun h10 => ?_)
  · skip
    have c11 := wt_ceq h10
    unfold wp_md_told_B21
    have k12 : (1 : Int32).toInt = 1 := by decide
    refine wt_T_bi (wq_md_bad n hn (1 : Int32) (1 : Int32) σ2 rσ2 (by omega)) (fun r13 h14 => ?_)
    obtain ⟨f15, ri16, pp17⟩ := h14
    have bb18 := wt_bd r13.1
    have bb19 := wt_bd (wt_gf r13.2 108 0)
    have bb20 := wt_bd (wt_gf σ2 108 0)
    refine wt_T_if (fun h21 => ?_) (fun h21 => ?_)
    · skip
      have c22 := wt_ceq h21
      refine wt_T_if (fun h23 => ?_) (fun h23 => ?_)
      · skip
        have c24 := wt_ceq h23
        refine wt_T_bi (wq_md_allPieces n hn r13.2 ri16) (fun r25 h26 => ?_)
        have e27 := h26
        have bb28 := wt_bd r25.1
        rw [e27]
        refine wt_T_some ?_
        exact ⟨(wt_fr.tr (wt_fr.tr wt_fr.rf fσ2 (fun i k h => by (try dsimp only at h); exact (by omega)) (fun i h => h.elim)) f15 (fun i k h => by (try dsimp only at h); exact (by omega)) (fun i h => h.elim)), ri16⟩
      · skip
        have c29 := wt_nceq h23
        refine wt_T_if (fun h30 => ?_) (fun h30 => ?_)
        · skip
          have c31 := wt_ceq h30
          refine wt_T_some ?_
          exact ⟨(wt_fr.tr (wt_fr.tr wt_fr.rf fσ2 (fun i k h => by (try dsimp only at h); exact (by omega)) (fun i h => h.elim)) f15 (fun i k h => by (try dsimp only at h); exact (by omega)) (fun i h => h.elim)), ri16⟩
        · skip
          have c32 := wt_nceq h30
          have k33 : (2 : Int32).toInt = 2 := by decide
          refine wt_T_if (fun h34 => ?_) (fun h34 => ?_)
          · skip
            have c35 := wt_ceq h34
            refine wt_T_some ?_
            exact ⟨(wt_fr.tr (wt_fr.tr wt_fr.rf fσ2 (fun i k h => by (try dsimp only at h); exact (by omega)) (fun i h => h.elim)) f15 (fun i k h => by (try dsimp only at h); exact (by omega)) (fun i h => h.elim)), ri16⟩
          · skip
            have c36 := wt_nceq h34
            have k37 : (3 : Int32).toInt = 3 := by decide
            refine wt_T_if (fun h38 => ?_) (fun h38 => ?_)
            · skip
              have c39 := wt_ceq h38
              refine wt_T_bi (wq_md_standing n hn r13.2 ri16) (fun r40 h41 => ?_)
              have e42 := h41
              have bb43 := wt_bd r40.1
              rw [e42]
              refine wt_T_some ?_
              exact ⟨(wt_fr.tr (wt_fr.tr wt_fr.rf fσ2 (fun i k h => by (try dsimp only at h); exact (by omega)) (fun i h => h.elim)) f15 (fun i k h => by (try dsimp only at h); exact (by omega)) (fun i h => h.elim)), ri16⟩
            · skip
              have c44 := wt_nceq h38
              have k45 : (4 : Int32).toInt = 4 := by decide
              refine wt_T_if (fun h46 => ?_) (fun h46 => ?_)
              · skip
                have c47 := wt_ceq h46
                refine wt_T_some ?_
                exact ⟨(wt_fr.tr (wt_fr.tr wt_fr.rf fσ2 (fun i k h => by (try dsimp only at h); exact (by omega)) (fun i h => h.elim)) f15 (fun i k h => by (try dsimp only at h); exact (by omega)) (fun i h => h.elim)), ri16⟩
              · skip
                have c48 := wt_nceq h46
                have k49 : (5 : Int32).toInt = 5 := by decide
                refine wt_T_if (fun h50 => ?_) (fun h50 => ?_)
                · skip
                  have c51 := wt_ceq h50
                  refine wt_T_some ?_
                  exact ⟨(wt_fr.tr (wt_fr.tr wt_fr.rf fσ2 (fun i k h => by (try dsimp only at h); exact (by omega)) (fun i h => h.elim)) f15 (fun i k h => by (try dsimp only at h); exact (by omega)) (fun i h => h.elim)), ri16⟩
                · skip
                  have c52 := wt_nceq h50
                  have k53 : (6 : Int32).toInt = 6 := by decide
                  refine wt_T_if (fun h54 => ?_) (fun h54 => ?_)
                  · skip
                    have c55 := wt_ceq h54
                    refine wt_T_some ?_
                    exact ⟨(wt_fr.tr (wt_fr.tr wt_fr.rf fσ2 (fun i k h => by (try dsimp only at h); exact (by omega)) (fun i h => h.elim)) f15 (fun i k h => by (try dsimp only at h); exact (by omega)) (fun i h => h.elim)), ri16⟩
                  · skip
                    have c56 := wt_nceq h54
                    refine wt_T_some ?_
                    exact ⟨(wt_fr.tr (wt_fr.tr wt_fr.rf fσ2 (fun i k h => by (try dsimp only at h); exact (by omega)) (fun i h => h.elim)) f15 (fun i k h => by (try dsimp only at h); exact (by omega)) (fun i h => h.elim)), ri16⟩
    · skip
      have c57 := wt_nceq h21
      refine wt_T_some ?_
      exact ⟨(wt_fr.tr (wt_fr.tr wt_fr.rf fσ2 (fun i k h => by (try dsimp only at h); exact (by omega)) (fun i h => h.elim)) f15 (fun i k h => by (try dsimp only at h); exact (by omega)) (fun i h => h.elim)), ri16⟩
  · skip
    have c58 := wt_nceq h10
    unfold wp_md_told_B21
    have k59 : (1 : Int32).toInt = 1 := by decide
    refine wt_T_bi (wq_md_bad n hn (0 : Int32) (1 : Int32) σ2 rσ2 (by omega)) (fun r60 h61 => ?_)
    obtain ⟨f62, ri63, pp64⟩ := h61
    have bb65 := wt_bd r60.1
    have bb66 := wt_bd (wt_gf r60.2 108 0)
    have bb67 := wt_bd (wt_gf σ2 108 0)
    refine wt_T_if (fun h68 => ?_) (fun h68 => ?_)
    · skip
      have c69 := wt_ceq h68
      refine wt_T_if (fun h70 => ?_) (fun h70 => ?_)
      · skip
        have c71 := wt_ceq h70
        refine wt_T_bi (wq_md_allPieces n hn r60.2 ri63) (fun r72 h73 => ?_)
        have e74 := h73
        have bb75 := wt_bd r72.1
        rw [e74]
        refine wt_T_some ?_
        exact ⟨(wt_fr.tr (wt_fr.tr wt_fr.rf fσ2 (fun i k h => by (try dsimp only at h); exact (by omega)) (fun i h => h.elim)) f62 (fun i k h => by (try dsimp only at h); exact (by omega)) (fun i h => h.elim)), ri63⟩
      · skip
        have c76 := wt_nceq h70
        refine wt_T_if (fun h77 => ?_) (fun h77 => ?_)
        · skip
          have c78 := wt_ceq h77
          refine wt_T_some ?_
          exact ⟨(wt_fr.tr (wt_fr.tr wt_fr.rf fσ2 (fun i k h => by (try dsimp only at h); exact (by omega)) (fun i h => h.elim)) f62 (fun i k h => by (try dsimp only at h); exact (by omega)) (fun i h => h.elim)), ri63⟩
        · skip
          have c79 := wt_nceq h77
          have k80 : (2 : Int32).toInt = 2 := by decide
          refine wt_T_if (fun h81 => ?_) (fun h81 => ?_)
          · skip
            have c82 := wt_ceq h81
            refine wt_T_some ?_
            exact ⟨(wt_fr.tr (wt_fr.tr wt_fr.rf fσ2 (fun i k h => by (try dsimp only at h); exact (by omega)) (fun i h => h.elim)) f62 (fun i k h => by (try dsimp only at h); exact (by omega)) (fun i h => h.elim)), ri63⟩
          · skip
            have c83 := wt_nceq h81
            have k84 : (3 : Int32).toInt = 3 := by decide
            refine wt_T_if (fun h85 => ?_) (fun h85 => ?_)
            · skip
              have c86 := wt_ceq h85
              refine wt_T_bi (wq_md_standing n hn r60.2 ri63) (fun r87 h88 => ?_)
              have e89 := h88
              have bb90 := wt_bd r87.1
              rw [e89]
              refine wt_T_some ?_
              exact ⟨(wt_fr.tr (wt_fr.tr wt_fr.rf fσ2 (fun i k h => by (try dsimp only at h); exact (by omega)) (fun i h => h.elim)) f62 (fun i k h => by (try dsimp only at h); exact (by omega)) (fun i h => h.elim)), ri63⟩
            · skip
              have c91 := wt_nceq h85
              have k92 : (4 : Int32).toInt = 4 := by decide
              refine wt_T_if (fun h93 => ?_) (fun h93 => ?_)
              · skip
                have c94 := wt_ceq h93
                refine wt_T_some ?_
                exact ⟨(wt_fr.tr (wt_fr.tr wt_fr.rf fσ2 (fun i k h => by (try dsimp only at h); exact (by omega)) (fun i h => h.elim)) f62 (fun i k h => by (try dsimp only at h); exact (by omega)) (fun i h => h.elim)), ri63⟩
              · skip
                have c95 := wt_nceq h93
                have k96 : (5 : Int32).toInt = 5 := by decide
                refine wt_T_if (fun h97 => ?_) (fun h97 => ?_)
                · skip
                  have c98 := wt_ceq h97
                  refine wt_T_some ?_
                  exact ⟨(wt_fr.tr (wt_fr.tr wt_fr.rf fσ2 (fun i k h => by (try dsimp only at h); exact (by omega)) (fun i h => h.elim)) f62 (fun i k h => by (try dsimp only at h); exact (by omega)) (fun i h => h.elim)), ri63⟩
                · skip
                  have c99 := wt_nceq h97
                  have k100 : (6 : Int32).toInt = 6 := by decide
                  refine wt_T_if (fun h101 => ?_) (fun h101 => ?_)
                  · skip
                    have c102 := wt_ceq h101
                    refine wt_T_some ?_
                    exact ⟨(wt_fr.tr (wt_fr.tr wt_fr.rf fσ2 (fun i k h => by (try dsimp only at h); exact (by omega)) (fun i h => h.elim)) f62 (fun i k h => by (try dsimp only at h); exact (by omega)) (fun i h => h.elim)), ri63⟩
                  · skip
                    have c103 := wt_nceq h101
                    refine wt_T_some ?_
                    exact ⟨(wt_fr.tr (wt_fr.tr wt_fr.rf fσ2 (fun i k h => by (try dsimp only at h); exact (by omega)) (fun i h => h.elim)) f62 (fun i k h => by (try dsimp only at h); exact (by omega)) (fun i h => h.elim)), ri63⟩
    · skip
      have c104 := wt_nceq h68
      refine wt_T_some ?_
      exact ⟨(wt_fr.tr (wt_fr.tr wt_fr.rf fσ2 (fun i k h => by (try dsimp only at h); exact (by omega)) (fun i h => h.elim)) f62 (fun i k h => by (try dsimp only at h); exact (by omega)) (fun i h => h.elim)), ri63⟩
