set_option maxRecDepth 100000 in
set_option maxHeartbeats 4000000 in
theorem wq_md_tongue (n : Nat) (hn : 4294967297 < n) (x1 : Int32) (σ : wt_St) (r0 : wt_RI σ) : wt_T (wp_md_tongue n x1 σ) (fun q => wt_fr (fun i k => (i = 108 ∧ k = 0) ∨ (i = 108 ∧ k = 1) ∨ (i = 108 ∧ k = 2) ∨ (i = 108 ∧ k = 4) ∨ (i = 108 ∧ k = 5) ∨ (i = 108 ∧ k = 6) ∨ (i = 108 ∧ k = 7) ∨ (i = 108 ∧ k = 27) ∨ (i = 108 ∧ k = 29) ∨ (i = 108 ∧ k = 3) ∨ (i = 108 ∧ k = 28) ∨ (i = 108 ∧ k = 30) ∨ (i = 108 ∧ k = 39) ∨ (i = 108 ∧ k = 40) ∨ (i = 108 ∧ k = 41)) (fun i => i = 275 ∨ i = 124 ∨ i = 126 ∨ i = 128 ∨ i = 130 ∨ (193 ≤ i ∧ i < 253) ∨ i = 125 ∨ i = 127 ∨ i = 129 ∨ (132 ≤ i ∧ i < 192)) σ q.2 ∧ wt_RI q.2 ∧ ((x1.toInt < 0 ∨ (wt_gf σ 108 1).toInt < x1.toInt → (wt_gf q.2 108 1).toInt = (wt_gf σ 108 1).toInt) ∧ (0 ≤ x1.toInt ∧ x1.toInt ≤ (wt_gf σ 108 1).toInt → (wt_gf q.2 108 1).toInt = 0))) := by
  have bb1 := wt_bd x1
  unfold wp_md_tongue
  obtain ⟨σ2, eσ2⟩ : ∃ z : wt_St, z = wt_sf σ 108 0 (0 : Int32) := ⟨_, rfl⟩
  rw [← eσ2]
  have fσ2 := wt_fr_sf eσ2
  have vσ2 := wt_ceq (wt_v_sf eσ2)
  have k3 : (0 : Int32).toInt = 0 := by decide
  have rσ2 := wt_RI_fno r0 eσ2 (Or.inr (by decide))
  have bb4 := wt_bd (wt_gf σ2 108 1)
  have g5 : 0 ≤ (wt_gf σ2 108 1).toInt ∧ (wt_gf σ2 108 1).toInt ≤ 500 := wt_R_gf rσ2 0 rfl
  have tt6 : (wt_gf σ2 108 1).toInt = (wt_gf σ 108 1).toInt := congrArg Int32.toInt (fσ2.1 108 1 (by (try dsimp only); omega))
  have bb7 := wt_bd (wt_gf σ 108 1)
  have g8 : 0 ≤ (wt_gf σ 108 1).toInt ∧ (wt_gf σ 108 1).toInt ≤ 500 := wt_R_gf r0 0 rfl
  refine wt_T_bi (wq_md_in n hn x1 (0 : Int32) (wt_gf σ2 108 1) σ2 rσ2) (fun r9 h10 => ?_)
  obtain ⟨e11, pp12⟩ := h10
  have bb13 := wt_bd r9.1
  rw [e11]
  refine wt_T_if (fun h14 => ?_) (fun h14 => ?_)
  · skip
    have c15 := wt_ceq h14
    unfold wp_md_tongue_B23
    have k16 : (1 : Int32).toInt = 1 := by decide
    refine wt_T_bi (wq_md_bad n hn (1 : Int32) (1 : Int32) σ2 rσ2 (by omega)) (fun r17 h18 => ?_)
    obtain ⟨f19, ri20, pp21⟩ := h18
    have bb22 := wt_bd r17.1
    have bb23 := wt_bd (wt_gf r17.2 108 0)
    have bb24 := wt_bd (wt_gf σ2 108 0)
    refine wt_T_if (fun h25 => ?_) (fun h25 => ?_)
    · skip
      have c26 := wt_ceq h25
      refine wt_T_bi (wq_md_starts n hn x1 r17.2 ri20 (by omega) (by omega)) (fun r27 h28 => ?_)
      obtain ⟨f29, ri30, pp31⟩ := h28
      have bb32 := wt_bd (wt_gf r27 108 1)
      have g33 : 0 ≤ (wt_gf r27 108 1).toInt ∧ (wt_gf r27 108 1).toInt ≤ 500 := wt_R_gf ri30 0 rfl
      have bb34 := wt_bd (wt_gf r27 108 5)
      have g35 : 0 ≤ (wt_gf r27 108 5).toInt ∧ (wt_gf r27 108 5).toInt ≤ 3 := wt_R_gf ri30 3 rfl
      have bb36 := wt_bd (wt_gf r27 108 7)
      have g37 : 0 ≤ (wt_gf r27 108 7).toInt ∧ (wt_gf r27 108 7).toInt ≤ 60 := wt_R_gf ri30 4 rfl
      obtain ⟨σ38, eσ38⟩ : ∃ z : wt_St, z = wt_sf r27 108 27 (0 : Int32) := ⟨_, rfl⟩
      rw [← eσ38]
      have fσ38 := wt_fr_sf eσ38
      have vσ38 := wt_ceq (wt_v_sf eσ38)
      have rσ38 := wt_RI_fin ri30 eσ38 5 rfl rfl (show 0 ≤ ((0 : Int32)).toInt by omega) (show ((0 : Int32)).toInt ≤ 60 by omega)
      obtain ⟨σ39, eσ39⟩ : ∃ z : wt_St, z = wt_sf σ38 108 29 (0 : Int32) := ⟨_, rfl⟩
      rw [← eσ39]
      have fσ39 := wt_fr_sf eσ39
      have vσ39 := wt_ceq (wt_v_sf eσ39)
      have rσ39 := wt_RI_fno rσ38 eσ39 (Or.inr (by decide))
      refine wt_T_it (fun s : wt_St => wt_fr (fun i k => (i = 108 ∧ k = 4) ∨ (i = 108 ∧ k = 5) ∨ (i = 108 ∧ k = 6) ∨ (i = 108 ∧ k = 29) ∨ (i = 108 ∧ k = 27)) (fun i => i = 125 ∨ i = 127 ∨ i = 129 ∨ (132 ≤ i ∧ i < 192)) σ39 s ∧ wt_RI s) (fun s : wt_St => (4 * (60 - (wt_gf s 108 27).toInt) + 3 - (wt_gf s 108 5).toInt).toNat) (fun KK40 z41 I42 hKK40 => ?_) _ _ ?_ ?_
      · skip
        obtain ⟨l43, l44⟩ := I42
        unfold wp_md_tongue_B47
        have bb45 := wt_bd (wt_gf z41 108 27)
        have g46 : 0 ≤ (wt_gf z41 108 27).toInt ∧ (wt_gf z41 108 27).toInt ≤ 60 := wt_R_gf l44 5 rfl
        have bb47 := wt_bd (wt_gf z41 108 5)
        have g48 : 0 ≤ (wt_gf z41 108 5).toInt ∧ (wt_gf z41 108 5).toInt ≤ 3 := wt_R_gf l44 3 rfl
        refine wt_T_if (fun h49 => ?_) (fun h49 => ?_)
        · skip
          have c50 := wt_ceq h49
          have bb51 := wt_bd (wt_gf z41 108 2)
          have g52 : 0 ≤ (wt_gf z41 108 2).toInt ∧ (wt_gf z41 108 2).toInt ≤ 500 := wt_R_gf l44 1 rfl
          have tt53 : (wt_gf z41 108 2).toInt = (wt_gf σ39 108 2).toInt := congrArg Int32.toInt (l43.1 108 2 (by (try dsimp only); omega))
          have bb54 := wt_bd (wt_gf σ39 108 2)
          have g55 : 0 ≤ (wt_gf σ39 108 2).toInt ∧ (wt_gf σ39 108 2).toInt ≤ 500 := wt_R_gf rσ39 1 rfl
          have tt56 : (wt_gf σ39 108 2).toInt = (wt_gf σ38 108 2).toInt := congrArg Int32.toInt (fσ39.1 108 2 (by (try dsimp only); omega))
          have bb57 := wt_bd (wt_gf σ38 108 2)
          have g58 : 0 ≤ (wt_gf σ38 108 2).toInt ∧ (wt_gf σ38 108 2).toInt ≤ 500 := wt_R_gf rσ38 1 rfl
          have tt59 : (wt_gf σ38 108 2).toInt = (wt_gf r27 108 2).toInt := congrArg Int32.toInt (fσ38.1 108 2 (by (try dsimp only); omega))
          have bb60 := wt_bd (wt_gf r27 108 2)
          have g61 : 0 ≤ (wt_gf r27 108 2).toInt ∧ (wt_gf r27 108 2).toInt ≤ 500 := wt_R_gf ri30 1 rfl
          have bb62 := wt_bd (wt_gf z41 108 4)
          have g63 : 0 ≤ (wt_gf z41 108 4).toInt ∧ (wt_gf z41 108 4).toInt ≤ 500 := wt_R_gf l44 2 rfl
          refine wt_T_if (fun h64 => ?_) (fun h64 => ?_)
          · skip
            have c65 := wt_cle h64
            unfold wp_md_tongue_B134
            obtain ⟨σ66, eσ66⟩ : ∃ z : wt_St, z = wt_sf z41 108 3 (wt_gf z41 108 6) := ⟨_, rfl⟩
            rw [← eσ66]
            have fσ66 := wt_fr_sf eσ66
            have vσ66 := wt_ceq (wt_v_sf eσ66)
            have bb67 := wt_bd (wt_gf z41 108 6)
            have rσ66 := wt_RI_fno l44 eσ66 (Or.inr (by decide))
            have bb68 := wt_bd (wt_gf σ66 108 5)
            have g69 : 0 ≤ (wt_gf σ66 108 5).toInt ∧ (wt_gf σ66 108 5).toInt ≤ 3 := wt_R_gf rσ66 3 rfl
            have tt70 : (wt_gf σ66 108 5).toInt = (wt_gf z41 108 5).toInt := congrArg Int32.toInt (fσ66.1 108 5 (by (try dsimp only); omega))
            refine wt_T_if (fun h71 => ?_) (fun h71 => ?_)
            · skip
              have c72 := wt_ceq h71
              obtain ⟨σ73, eσ73⟩ : ∃ z : wt_St, z = wt_sf σ66 108 28 (wt_gf σ66 108 27) := ⟨_, rfl⟩
              rw [← eσ73]
              have fσ73 := wt_fr_sf eσ73
              have vσ73 := wt_ceq (wt_v_sf eσ73)
              have bb74 := wt_bd (wt_gf σ66 108 27)
              have g75 : 0 ≤ (wt_gf σ66 108 27).toInt ∧ (wt_gf σ66 108 27).toInt ≤ 60 := wt_R_gf rσ66 5 rfl
              have tt76 : (wt_gf σ66 108 27).toInt = (wt_gf z41 108 27).toInt := congrArg Int32.toInt (fσ66.1 108 27 (by (try dsimp only); omega))
              have rσ73 := wt_RI_fin rσ66 eσ73 6 rfl rfl (show 0 ≤ (wt_gf σ66 108 27).toInt by omega) (show (wt_gf σ66 108 27).toInt ≤ 60 by omega)
              obtain ⟨σ77, eσ77⟩ : ∃ z : wt_St, z = wt_sf σ73 108 30 (wt_gf σ73 108 29) := ⟨_, rfl⟩
              rw [← eσ77]
              have fσ77 := wt_fr_sf eσ77
              have vσ77 := wt_ceq (wt_v_sf eσ77)
              have bb78 := wt_bd (wt_gf σ73 108 29)
              have tt79 : (wt_gf σ73 108 29).toInt = (wt_gf σ66 108 29).toInt := congrArg Int32.toInt (fσ73.1 108 29 (by (try dsimp only); omega))
              have bb80 := wt_bd (wt_gf σ66 108 29)
              have tt81 : (wt_gf σ66 108 29).toInt = (wt_gf z41 108 29).toInt := congrArg Int32.toInt (fσ66.1 108 29 (by (try dsimp only); omega))
              have bb82 := wt_bd (wt_gf z41 108 29)
              have rσ77 := wt_RI_fno rσ73 eσ77 (Or.inr (by decide))
              refine wt_T_it (fun s : Int32 × wt_St => wt_fr (fun i k => False) (fun i => i = 126 ∨ i = 128 ∨ i = 130 ∨ (193 ≤ i ∧ i < 253)) σ77 s.2 ∧ 0 ≤ (s.1).toInt ∧ wt_RI s.2) (fun s : Int32 × wt_St => ((wt_gf s.2 108 28).toInt - s.1.toInt + 0).toNat) (fun KK83 z84 I85 hKK83 => ?_) _ _ ?_ ?_
              · skip
                obtain ⟨l86, l87, l88⟩ := I85
                unfold wp_md_tongue_B175
                have bb89 := wt_bd (wt_gf z84.2 108 28)
                have g90 : 0 ≤ (wt_gf z84.2 108 28).toInt ∧ (wt_gf z84.2 108 28).toInt ≤ 60 := wt_R_gf l88 6 rfl
                have tt91 : (wt_gf z84.2 108 28).toInt = (wt_gf σ77 108 28).toInt := congrArg Int32.toInt (l86.1 108 28 (fun z => z))
                have bb92 := wt_bd (wt_gf σ77 108 28)
                have g93 : 0 ≤ (wt_gf σ77 108 28).toInt ∧ (wt_gf σ77 108 28).toInt ≤ 60 := wt_R_gf rσ77 6 rfl
                have tt94 : (wt_gf σ77 108 28).toInt = (wt_gf σ73 108 28).toInt := congrArg Int32.toInt (fσ77.1 108 28 (by (try dsimp only); omega))
                have bb95 := wt_bd (wt_gf σ73 108 28)
                have g96 : 0 ≤ (wt_gf σ73 108 28).toInt ∧ (wt_gf σ73 108 28).toInt ≤ 60 := wt_R_gf rσ73 6 rfl
                have bb97 := wt_bd z84.1
                refine wt_T_if (fun h98 => ?_) (fun h98 => ?_)
                · skip
                  have c99 := wt_cle h98
                  obtain ⟨σ100, eσ100⟩ : ∃ z : wt_St, z = wt_sf z84.2 108 39 (0 : Int32) := ⟨_, rfl⟩
                  rw [← eσ100]
                  have fσ100 := wt_fr_sf eσ100
                  have vσ100 := wt_ceq (wt_v_sf eσ100)
                  have rσ100 := wt_RI_fin l88 eσ100 7 rfl rfl (show 0 ≤ ((0 : Int32)).toInt by omega) (show ((0 : Int32)).toInt ≤ 8 by omega)
                  obtain ⟨σ101, eσ101⟩ : ∃ z : wt_St, z = wt_sf σ100 108 40 (0 : Int32) := ⟨_, rfl⟩
                  rw [← eσ101]
                  have fσ101 := wt_fr_sf eσ101
                  have vσ101 := wt_ceq (wt_v_sf eσ101)
                  have rσ101 := wt_RI_fin rσ100 eσ101 8 rfl rfl (show 0 ≤ ((0 : Int32)).toInt by omega) (show ((0 : Int32)).toInt ≤ 10 by omega)
                  obtain ⟨σ102, eσ102⟩ : ∃ z : wt_St, z = wt_sf σ101 108 41 (0 : Int32) := ⟨_, rfl⟩
                  rw [← eσ102]
                  have fσ102 := wt_fr_sf eσ102
                  have vσ102 := wt_ceq (wt_v_sf eσ102)
                  have rσ102 := wt_RI_fin rσ101 eσ102 9 rfl rfl (show 0 ≤ ((0 : Int32)).toInt by omega) (show ((0 : Int32)).toInt ≤ 3 by omega)
                  refine wt_T_it (fun s : Int32 × wt_St => wt_fr (fun i k => False) (fun i => i = 275 ∨ i = 124) σ102 s.2 ∧ 0 ≤ (s.1).toInt ∧ wt_RI s.2) (fun s : Int32 × wt_St => ((4 : Int32).toInt - s.1.toInt + 0).toNat) (fun KK103 z104 I105 hKK103 => ?_) _ _ ?_ ?_
                  · skip
                    obtain ⟨l106, l107, l108⟩ := I105
                    unfold wp_md_tongue_B272
                    have k109 : (4 : Int32).toInt = 4 := by decide
                    have bb110 := wt_bd z104.1
                    refine wt_T_if (fun h111 => ?_) (fun h111 => ?_)
                    · skip
                      have c112 := wt_cle h111
                      refine wt_T_some ?_
                      have bb113 := wt_bd (wt_gf z104.2 108 28)
                      have g114 : 0 ≤ (wt_gf z104.2 108 28).toInt ∧ (wt_gf z104.2 108 28).toInt ≤ 60 := wt_R_gf l108 6 rfl
                      have tt115 : (wt_gf z104.2 108 28).toInt = (wt_gf σ102 108 28).toInt := congrArg Int32.toInt (l106.1 108 28 (fun z => z))
                      have bb116 := wt_bd (wt_gf σ102 108 28)
                      have g117 : 0 ≤ (wt_gf σ102 108 28).toInt ∧ (wt_gf σ102 108 28).toInt ≤ 60 := wt_R_gf rσ102 6 rfl
                      have tt118 : (wt_gf σ102 108 28).toInt = (wt_gf σ101 108 28).toInt := congrArg Int32.toInt (fσ102.1 108 28 (by (try dsimp only); omega))
                      have bb119 := wt_bd (wt_gf σ101 108 28)
                      have g120 : 0 ≤ (wt_gf σ101 108 28).toInt ∧ (wt_gf σ101 108 28).toInt ≤ 60 := wt_R_gf rσ101 6 rfl
                      have tt121 : (wt_gf σ101 108 28).toInt = (wt_gf σ100 108 28).toInt := congrArg Int32.toInt (fσ101.1 108 28 (by (try dsimp only); omega))
                      have bb122 := wt_bd (wt_gf σ100 108 28)
                      have g123 : 0 ≤ (wt_gf σ100 108 28).toInt ∧ (wt_gf σ100 108 28).toInt ≤ 60 := wt_R_gf rσ100 6 rfl
                      have tt124 : (wt_gf σ100 108 28).toInt = (wt_gf z84.2 108 28).toInt := congrArg Int32.toInt (fσ100.1 108 28 (by (try dsimp only); omega))
                      have bb125 := wt_bd (wt_gf z104.2 108 1)
                      have g126 : 0 ≤ (wt_gf z104.2 108 1).toInt ∧ (wt_gf z104.2 108 1).toInt ≤ 500 := wt_R_gf l108 0 rfl
                      have tt127 : (wt_gf z104.2 108 1).toInt = (wt_gf σ102 108 1).toInt := congrArg Int32.toInt (l106.1 108 1 (fun z => z))
                      have bb128 := wt_bd (wt_gf σ102 108 1)
                      have g129 : 0 ≤ (wt_gf σ102 108 1).toInt ∧ (wt_gf σ102 108 1).toInt ≤ 500 := wt_R_gf rσ102 0 rfl
                      have tt130 : (wt_gf σ102 108 1).toInt = (wt_gf σ101 108 1).toInt := congrArg Int32.toInt (fσ102.1 108 1 (by (try dsimp only); omega))
                      have bb131 := wt_bd (wt_gf σ101 108 1)
                      have g132 : 0 ≤ (wt_gf σ101 108 1).toInt ∧ (wt_gf σ101 108 1).toInt ≤ 500 := wt_R_gf rσ101 0 rfl
                      have tt133 : (wt_gf σ101 108 1).toInt = (wt_gf σ100 108 1).toInt := congrArg Int32.toInt (fσ101.1 108 1 (by (try dsimp only); omega))
                      have bb134 := wt_bd (wt_gf σ100 108 1)
                      have g135 : 0 ≤ (wt_gf σ100 108 1).toInt ∧ (wt_gf σ100 108 1).toInt ≤ 500 := wt_R_gf rσ100 0 rfl
                      have tt136 : (wt_gf σ100 108 1).toInt = (wt_gf z84.2 108 1).toInt := congrArg Int32.toInt (fσ100.1 108 1 (by (try dsimp only); omega))
                      have bb137 := wt_bd (wt_gf z84.2 108 1)
                      have g138 : 0 ≤ (wt_gf z84.2 108 1).toInt ∧ (wt_gf z84.2 108 1).toInt ≤ 500 := wt_R_gf l88 0 rfl
                      have tt139 : (wt_gf z84.2 108 1).toInt = (wt_gf σ77 108 1).toInt := congrArg Int32.toInt (l86.1 108 1 (fun z => z))
                      have bb140 := wt_bd (wt_gf σ77 108 1)
                      have g141 : 0 ≤ (wt_gf σ77 108 1).toInt ∧ (wt_gf σ77 108 1).toInt ≤ 500 := wt_R_gf rσ77 0 rfl
                      have tt142 : (wt_gf σ77 108 1).toInt = (wt_gf σ73 108 1).toInt := congrArg Int32.toInt (fσ77.1 108 1 (by (try dsimp only); omega))
                      have bb143 := wt_bd (wt_gf σ73 108 1)
                      have g144 : 0 ≤ (wt_gf σ73 108 1).toInt ∧ (wt_gf σ73 108 1).toInt ≤ 500 := wt_R_gf rσ73 0 rfl
                      have tt145 : (wt_gf σ73 108 1).toInt = (wt_gf σ66 108 1).toInt := congrArg Int32.toInt (fσ73.1 108 1 (by (try dsimp only); omega))
                      have bb146 := wt_bd (wt_gf σ66 108 1)
                      have g147 : 0 ≤ (wt_gf σ66 108 1).toInt ∧ (wt_gf σ66 108 1).toInt ≤ 500 := wt_R_gf rσ66 0 rfl
                      have tt148 : (wt_gf σ66 108 1).toInt = (wt_gf z41 108 1).toInt := congrArg Int32.toInt (fσ66.1 108 1 (by (try dsimp only); omega))
                      have bb149 := wt_bd (wt_gf z41 108 1)
                      have g150 : 0 ≤ (wt_gf z41 108 1).toInt ∧ (wt_gf z41 108 1).toInt ≤ 500 := wt_R_gf l44 0 rfl
                      have tt151 : (wt_gf z41 108 1).toInt = (wt_gf σ39 108 1).toInt := congrArg Int32.toInt (l43.1 108 1 (by (try dsimp only); omega))
                      have bb152 := wt_bd (wt_gf σ39 108 1)
                      have g153 : 0 ≤ (wt_gf σ39 108 1).toInt ∧ (wt_gf σ39 108 1).toInt ≤ 500 := wt_R_gf rσ39 0 rfl
                      have tt154 : (wt_gf σ39 108 1).toInt = (wt_gf σ38 108 1).toInt := congrArg Int32.toInt (fσ39.1 108 1 (by (try dsimp only); omega))
                      have bb155 := wt_bd (wt_gf σ38 108 1)
                      have g156 : 0 ≤ (wt_gf σ38 108 1).toInt ∧ (wt_gf σ38 108 1).toInt ≤ 500 := wt_R_gf rσ38 0 rfl
                      have tt157 : (wt_gf σ38 108 1).toInt = (wt_gf r27 108 1).toInt := congrArg Int32.toInt (fσ38.1 108 1 (by (try dsimp only); omega))
                      exact ⟨(wt_fr.tr (wt_fr.tr (wt_fr.tr (wt_fr.tr (wt_fr.tr (wt_fr.tr (wt_fr.tr (wt_fr.tr (wt_fr.tr (wt_fr.tr (wt_fr.tr (wt_fr.tr (wt_fr.tr (wt_fr.tr wt_fr.rf fσ2 (fun i k h => by (try dsimp only at h); exact Or.inl (by omega)) (fun i h => h.elim)) f19 (fun i k h => by (try dsimp only at h); exact Or.inl (by omega)) (fun i h => h.elim)) f29 (fun i k h => by (try dsimp only at h); rcases h with h | h | h | h | h | h; exact Or.inr (Or.inl (by omega)); exact Or.inr (Or.inr (Or.inl (by omega))); exact Or.inr (Or.inr (Or.inr (Or.inl (by omega)))); exact Or.inr (Or.inr (Or.inr (Or.inr (Or.inl (by omega))))); exact Or.inr (Or.inr (Or.inr (Or.inr (Or.inr (Or.inl (by omega)))))); exact Or.inr (Or.inr (Or.inr (Or.inr (Or.inr (Or.inr (Or.inl (by omega)))))))) (fun i h => h.elim)) fσ38 (fun i k h => by (try dsimp only at h); exact Or.inr (Or.inr (Or.inr (Or.inr (Or.inr (Or.inr (Or.inr (Or.inl (by omega))))))))) (fun i h => h.elim)) fσ39 (fun i k h => by (try dsimp only at h); exact Or.inr (Or.inr (Or.inr (Or.inr (Or.inr (Or.inr (Or.inr (Or.inr (Or.inl (by omega)))))))))) (fun i h => h.elim)) l43 (fun i k h => by (try dsimp only at h); rcases h with h | h | h | h | h; exact Or.inr (Or.inr (Or.inr (Or.inl (by omega)))); exact Or.inr (Or.inr (Or.inr (Or.inr (Or.inl (by omega))))); exact Or.inr (Or.inr (Or.inr (Or.inr (Or.inr (Or.inl (by omega)))))); exact Or.inr (Or.inr (Or.inr (Or.inr (Or.inr (Or.inr (Or.inr (Or.inr (Or.inl (by omega))))))))); exact Or.inr (Or.inr (Or.inr (Or.inr (Or.inr (Or.inr (Or.inr (Or.inl (by omega))))))))) (fun i h => by (try dsimp only at h); rcases h with h | h | h | h; exact Or.inr (Or.inr (Or.inr (Or.inr (Or.inr (Or.inr (Or.inl (by omega))))))); exact Or.inr (Or.inr (Or.inr (Or.inr (Or.inr (Or.inr (Or.inr (Or.inl (by omega)))))))); exact Or.inr (Or.inr (Or.inr (Or.inr (Or.inr (Or.inr (Or.inr (Or.inr (Or.inl (by omega))))))))); exact Or.inr (Or.inr (Or.inr (Or.inr (Or.inr (Or.inr (Or.inr (Or.inr (Or.inr ((by omega)))))))))))) fσ66 (fun i k h => by (try dsimp only at h); exact Or.inr (Or.inr (Or.inr (Or.inr (Or.inr (Or.inr (Or.inr (Or.inr (Or.inr (Or.inl (by omega))))))))))) (fun i h => h.elim)) fσ73 (fun i k h => by (try dsimp only at h); exact Or.inr (Or.inr (Or.inr (Or.inr (Or.inr (Or.inr (Or.inr (Or.inr (Or.inr (Or.inr (Or.inl (by omega)))))))))))) (fun i h => h.elim)) fσ77 (fun i k h => by (try dsimp only at h); exact Or.inr (Or.inr (Or.inr (Or.inr (Or.inr (Or.inr (Or.inr (Or.inr (Or.inr (Or.inr (Or.inr (Or.inl (by omega))))))))))))) (fun i h => h.elim)) l86 (fun i k h => h.elim) (fun i h => by (try dsimp only at h); rcases h with h | h | h | h; exact Or.inr (Or.inr (Or.inl (by omega))); exact Or.inr (Or.inr (Or.inr (Or.inl (by omega)))); exact Or.inr (Or.inr (Or.inr (Or.inr (Or.inl (by omega))))); exact Or.inr (Or.inr (Or.inr (Or.inr (Or.inr (Or.inl (by omega)))))))) fσ100 (fun i k h => by (try dsimp only at h); exact Or.inr (Or.inr (Or.inr (Or.inr (Or.inr (Or.inr (Or.inr (Or.inr (Or.inr (Or.inr (Or.inr (Or.inr (Or.inl (by omega)))))))))))))) (fun i h => h.elim)) fσ101 (fun i k h => by (try dsimp only at h); exact Or.inr (Or.inr (Or.inr (Or.inr (Or.inr (Or.inr (Or.inr (Or.inr (Or.inr (Or.inr (Or.inr (Or.inr (Or.inr (Or.inl (by omega))))))))))))))) (fun i h => h.elim)) fσ102 (fun i k h => by (try dsimp only at h); exact Or.inr (Or.inr (Or.inr (Or.inr (Or.inr (Or.inr (Or.inr (Or.inr (Or.inr (Or.inr (Or.inr (Or.inr (Or.inr (Or.inr ((by omega)))))))))))))))) (fun i h => h.elim)) l106 (fun i k h => h.elim) (fun i h => by (try dsimp only at h); rcases h with h | h; exact Or.inl (by omega); exact Or.inr (Or.inl (by omega)))), l108, (show ((x1.toInt < 0 ∨ (wt_gf σ 108 1).toInt < x1.toInt → (wt_gf z104.2 108 1).toInt = (wt_gf σ 108 1).toInt) ∧ (0 ≤ x1.toInt ∧ x1.toInt ≤ (wt_gf σ 108 1).toInt → (wt_gf z104.2 108 1).toInt = 0)) from by omega)⟩
                    · skip
                      have c158 := wt_ncle h111
                      refine wt_T_gd (wt_ix (by omega) (by omega)) ?_
                      have bb159 := wt_tn z104.1
                      have bb160 := wt_bd (wt_ga z104.2 275 (Int32.toNatClampNeg z104.1))
                      have g161 : -1 ≤ (wt_ga z104.2 275 (Int32.toNatClampNeg z104.1)).toInt ∧ (wt_ga z104.2 275 (Int32.toNatClampNeg z104.1)).toInt ≤ 7 := wt_R_ga l108 12 rfl 275 (by decide) (by decide) (Int32.toNatClampNeg z104.1)
                      refine wt_T_if (fun h162 => ?_) (fun h162 => ?_)
                      · skip
                        have c163 := wt_ceq h162
                        rw [wt_lm1] at c163
                        unfold wp_md_tongue_B292
                        refine hKK103 _ ⟨(wt_fr.tr wt_fr.rf l106 (fun i k h => h.elim) (fun i h => by (try dsimp only at h); rcases h with h | h; exact Or.inl (by omega); exact Or.inr ((by omega)))), (wt_nn (B := (4 : Int32)) (by omega) (by omega)), l108⟩ ?_
                        show ((4 : Int32).toInt - (z104.1 + (1 : Int32)).toInt + 0).toNat < ((4 : Int32).toInt - z104.1.toInt + 0).toNat
                        exact wt_mu (by omega) (by omega)
                      · skip
                        have c164 := wt_nceq h162
                        rw [wt_lm1] at c164
                        refine wt_T_bi (wq_md_takesApart n hn z104.1 z104.2 l108 (by omega) (by omega)) (fun r165 h166 => ?_)
                        obtain ⟨f167, ri168⟩ := h166
                        unfold wp_md_tongue_B292
                        refine hKK103 _ ⟨(wt_fr.tr (wt_fr.tr wt_fr.rf l106 (fun i k h => h.elim) (fun i h => by (try dsimp only at h); rcases h with h | h; exact Or.inl (by omega); exact Or.inr ((by omega)))) f167 (fun i k h => h.elim) (fun i h => by (try dsimp only at h); rcases h with h | h; exact Or.inl (by omega); exact Or.inr ((by omega)))), (wt_nn (B := (4 : Int32)) (by omega) (by omega)), ri168⟩ ?_
                        show ((4 : Int32).toInt - (z104.1 + (1 : Int32)).toInt + 0).toNat < ((4 : Int32).toInt - z104.1.toInt + 0).toNat
                        exact wt_mu (by omega) (by omega)
                  · skip
                    have k169 : (4 : Int32).toInt = 4 := by decide
                    exact ⟨wt_fr.rf, (show 0 ≤ ((0 : Int32)).toInt by omega), rσ102⟩
                  · skip
                    have k170 : (4 : Int32).toInt = 4 := by decide
                    show ((4 : Int32).toInt - (0 : Int32).toInt + 0).toNat < n
                    omega
                · skip
                  have c171 := wt_ncle h98
                  refine wt_T_gd (wt_ix (by omega) (by omega)) ?_
                  refine wt_T_gd (wt_ix (by omega) (by omega)) ?_
                  refine wt_T_gd (wt_ix (by omega) (by omega)) ?_
                  refine wt_T_gd (wt_ix (by omega) (by omega)) ?_
                  refine wt_T_gd (wt_ix (by omega) (by omega)) ?_
                  refine wt_T_gd (wt_ix (by omega) (by omega)) ?_
                  obtain ⟨σ172, eσ172⟩ : ∃ z : wt_St, z = wt_sa z84.2 126 (Int32.toNatClampNeg z84.1) (wt_ga z84.2 125 (Int32.toNatClampNeg z84.1)) := ⟨_, rfl⟩
                  rw [← eσ172]
                  have fσ172 := wt_fr_sa eσ172
                  have vσ172 := wt_ceq (wt_v_sa eσ172)
                  have bb173 := wt_tn z84.1
                  have bb174 := wt_bd (wt_ga z84.2 125 (Int32.toNatClampNeg z84.1))
                  have g175 : 0 ≤ (wt_ga z84.2 125 (Int32.toNatClampNeg z84.1)).toInt ∧ (wt_ga z84.2 125 (Int32.toNatClampNeg z84.1)).toInt ≤ 9 := wt_R_ga l88 5 rfl 125 (by decide) (by decide) (Int32.toNatClampNeg z84.1)
                  have tt176 : (wt_ga z84.2 125 (Int32.toNatClampNeg z84.1)).toInt = (wt_ga σ77 125 (Int32.toNatClampNeg z84.1)).toInt := congrArg Int32.toInt (l86.2 125 (by (try dsimp only); omega) (Int32.toNatClampNeg z84.1))
                  have bb177 := wt_bd (wt_ga σ77 125 (Int32.toNatClampNeg z84.1))
                  have g178 : 0 ≤ (wt_ga σ77 125 (Int32.toNatClampNeg z84.1)).toInt ∧ (wt_ga σ77 125 (Int32.toNatClampNeg z84.1)).toInt ≤ 9 := wt_R_ga rσ77 5 rfl 125 (by decide) (by decide) (Int32.toNatClampNeg z84.1)
                  have tt179 : (wt_ga σ77 125 (Int32.toNatClampNeg z84.1)).toInt = (wt_ga σ73 125 (Int32.toNatClampNeg z84.1)).toInt := congrArg Int32.toInt (fσ77.2 125 (fun z => z) (Int32.toNatClampNeg z84.1))
                  have bb180 := wt_bd (wt_ga σ73 125 (Int32.toNatClampNeg z84.1))
                  have g181 : 0 ≤ (wt_ga σ73 125 (Int32.toNatClampNeg z84.1)).toInt ∧ (wt_ga σ73 125 (Int32.toNatClampNeg z84.1)).toInt ≤ 9 := wt_R_ga rσ73 5 rfl 125 (by decide) (by decide) (Int32.toNatClampNeg z84.1)
                  have tt182 : (wt_ga σ73 125 (Int32.toNatClampNeg z84.1)).toInt = (wt_ga σ66 125 (Int32.toNatClampNeg z84.1)).toInt := congrArg Int32.toInt (fσ73.2 125 (fun z => z) (Int32.toNatClampNeg z84.1))
                  have bb183 := wt_bd (wt_ga σ66 125 (Int32.toNatClampNeg z84.1))
                  have g184 : 0 ≤ (wt_ga σ66 125 (Int32.toNatClampNeg z84.1)).toInt ∧ (wt_ga σ66 125 (Int32.toNatClampNeg z84.1)).toInt ≤ 9 := wt_R_ga rσ66 5 rfl 125 (by decide) (by decide) (Int32.toNatClampNeg z84.1)
                  have tt185 : (wt_ga σ66 125 (Int32.toNatClampNeg z84.1)).toInt = (wt_ga z41 125 (Int32.toNatClampNeg z84.1)).toInt := congrArg Int32.toInt (fσ66.2 125 (fun z => z) (Int32.toNatClampNeg z84.1))
                  have bb186 := wt_bd (wt_ga z41 125 (Int32.toNatClampNeg z84.1))
                  have g187 : 0 ≤ (wt_ga z41 125 (Int32.toNatClampNeg z84.1)).toInt ∧ (wt_ga z41 125 (Int32.toNatClampNeg z84.1)).toInt ≤ 9 := wt_R_ga l44 5 rfl 125 (by decide) (by decide) (Int32.toNatClampNeg z84.1)
                  have rσ172 := wt_RI_in l88 eσ172 5 rfl (by decide) (by decide) (show 0 ≤ (wt_ga z84.2 125 (Int32.toNatClampNeg z84.1)).toInt by omega) (show (wt_ga z84.2 125 (Int32.toNatClampNeg z84.1)).toInt ≤ 9 by omega)
                  obtain ⟨σ188, eσ188⟩ : ∃ z : wt_St, z = wt_sa σ172 128 (Int32.toNatClampNeg z84.1) (wt_ga σ172 127 (Int32.toNatClampNeg z84.1)) := ⟨_, rfl⟩
                  rw [← eσ188]
                  have fσ188 := wt_fr_sa eσ188
                  have vσ188 := wt_ceq (wt_v_sa eσ188)
                  have bb189 := wt_bd (wt_ga σ172 127 (Int32.toNatClampNeg z84.1))
                  have g190 : 0 ≤ (wt_ga σ172 127 (Int32.toNatClampNeg z84.1)).toInt ∧ (wt_ga σ172 127 (Int32.toNatClampNeg z84.1)).toInt ≤ 3 := wt_R_ga rσ172 6 rfl 127 (by decide) (by decide) (Int32.toNatClampNeg z84.1)
                  have tt191 : (wt_ga σ172 127 (Int32.toNatClampNeg z84.1)).toInt = (wt_ga z84.2 127 (Int32.toNatClampNeg z84.1)).toInt := congrArg Int32.toInt (fσ172.2 127 (by (try dsimp only); omega) (Int32.toNatClampNeg z84.1))
                  have bb192 := wt_bd (wt_ga z84.2 127 (Int32.toNatClampNeg z84.1))
                  have g193 : 0 ≤ (wt_ga z84.2 127 (Int32.toNatClampNeg z84.1)).toInt ∧ (wt_ga z84.2 127 (Int32.toNatClampNeg z84.1)).toInt ≤ 3 := wt_R_ga l88 6 rfl 127 (by decide) (by decide) (Int32.toNatClampNeg z84.1)
                  have tt194 : (wt_ga z84.2 127 (Int32.toNatClampNeg z84.1)).toInt = (wt_ga σ77 127 (Int32.toNatClampNeg z84.1)).toInt := congrArg Int32.toInt (l86.2 127 (by (try dsimp only); omega) (Int32.toNatClampNeg z84.1))
                  have bb195 := wt_bd (wt_ga σ77 127 (Int32.toNatClampNeg z84.1))
                  have g196 : 0 ≤ (wt_ga σ77 127 (Int32.toNatClampNeg z84.1)).toInt ∧ (wt_ga σ77 127 (Int32.toNatClampNeg z84.1)).toInt ≤ 3 := wt_R_ga rσ77 6 rfl 127 (by decide) (by decide) (Int32.toNatClampNeg z84.1)
                  have tt197 : (wt_ga σ77 127 (Int32.toNatClampNeg z84.1)).toInt = (wt_ga σ73 127 (Int32.toNatClampNeg z84.1)).toInt := congrArg Int32.toInt (fσ77.2 127 (fun z => z) (Int32.toNatClampNeg z84.1))
                  have bb198 := wt_bd (wt_ga σ73 127 (Int32.toNatClampNeg z84.1))
                  have g199 : 0 ≤ (wt_ga σ73 127 (Int32.toNatClampNeg z84.1)).toInt ∧ (wt_ga σ73 127 (Int32.toNatClampNeg z84.1)).toInt ≤ 3 := wt_R_ga rσ73 6 rfl 127 (by decide) (by decide) (Int32.toNatClampNeg z84.1)
                  have tt200 : (wt_ga σ73 127 (Int32.toNatClampNeg z84.1)).toInt = (wt_ga σ66 127 (Int32.toNatClampNeg z84.1)).toInt := congrArg Int32.toInt (fσ73.2 127 (fun z => z) (Int32.toNatClampNeg z84.1))
                  have bb201 := wt_bd (wt_ga σ66 127 (Int32.toNatClampNeg z84.1))
                  have g202 : 0 ≤ (wt_ga σ66 127 (Int32.toNatClampNeg z84.1)).toInt ∧ (wt_ga σ66 127 (Int32.toNatClampNeg z84.1)).toInt ≤ 3 := wt_R_ga rσ66 6 rfl 127 (by decide) (by decide) (Int32.toNatClampNeg z84.1)
                  have tt203 : (wt_ga σ66 127 (Int32.toNatClampNeg z84.1)).toInt = (wt_ga z41 127 (Int32.toNatClampNeg z84.1)).toInt := congrArg Int32.toInt (fσ66.2 127 (fun z => z) (Int32.toNatClampNeg z84.1))
                  have bb204 := wt_bd (wt_ga z41 127 (Int32.toNatClampNeg z84.1))
                  have g205 : 0 ≤ (wt_ga z41 127 (Int32.toNatClampNeg z84.1)).toInt ∧ (wt_ga z41 127 (Int32.toNatClampNeg z84.1)).toInt ≤ 3 := wt_R_ga l44 6 rfl 127 (by decide) (by decide) (Int32.toNatClampNeg z84.1)
                  have rσ188 := wt_RI_in rσ172 eσ188 6 rfl (by decide) (by decide) (show 0 ≤ (wt_ga σ172 127 (Int32.toNatClampNeg z84.1)).toInt by omega) (show (wt_ga σ172 127 (Int32.toNatClampNeg z84.1)).toInt ≤ 3 by omega)
                  obtain ⟨σ206, eσ206⟩ : ∃ z : wt_St, z = wt_sa σ188 130 (Int32.toNatClampNeg z84.1) (wt_ga σ188 129 (Int32.toNatClampNeg z84.1)) := ⟨_, rfl⟩
                  rw [← eσ206]
                  have fσ206 := wt_fr_sa eσ206
                  have vσ206 := wt_ceq (wt_v_sa eσ206)
                  have bb207 := wt_bd (wt_ga σ188 129 (Int32.toNatClampNeg z84.1))
                  have tt208 : (wt_ga σ188 129 (Int32.toNatClampNeg z84.1)).toInt = (wt_ga σ172 129 (Int32.toNatClampNeg z84.1)).toInt := congrArg Int32.toInt (fσ188.2 129 (by (try dsimp only); omega) (Int32.toNatClampNeg z84.1))
                  have bb209 := wt_bd (wt_ga σ172 129 (Int32.toNatClampNeg z84.1))
                  have tt210 : (wt_ga σ172 129 (Int32.toNatClampNeg z84.1)).toInt = (wt_ga z84.2 129 (Int32.toNatClampNeg z84.1)).toInt := congrArg Int32.toInt (fσ172.2 129 (by (try dsimp only); omega) (Int32.toNatClampNeg z84.1))
                  have bb211 := wt_bd (wt_ga z84.2 129 (Int32.toNatClampNeg z84.1))
                  have tt212 : (wt_ga z84.2 129 (Int32.toNatClampNeg z84.1)).toInt = (wt_ga σ77 129 (Int32.toNatClampNeg z84.1)).toInt := congrArg Int32.toInt (l86.2 129 (by (try dsimp only); omega) (Int32.toNatClampNeg z84.1))
                  have bb213 := wt_bd (wt_ga σ77 129 (Int32.toNatClampNeg z84.1))
                  have tt214 : (wt_ga σ77 129 (Int32.toNatClampNeg z84.1)).toInt = (wt_ga σ73 129 (Int32.toNatClampNeg z84.1)).toInt := congrArg Int32.toInt (fσ77.2 129 (fun z => z) (Int32.toNatClampNeg z84.1))
                  have bb215 := wt_bd (wt_ga σ73 129 (Int32.toNatClampNeg z84.1))
                  have tt216 : (wt_ga σ73 129 (Int32.toNatClampNeg z84.1)).toInt = (wt_ga σ66 129 (Int32.toNatClampNeg z84.1)).toInt := congrArg Int32.toInt (fσ73.2 129 (fun z => z) (Int32.toNatClampNeg z84.1))
                  have bb217 := wt_bd (wt_ga σ66 129 (Int32.toNatClampNeg z84.1))
                  have tt218 : (wt_ga σ66 129 (Int32.toNatClampNeg z84.1)).toInt = (wt_ga z41 129 (Int32.toNatClampNeg z84.1)).toInt := congrArg Int32.toInt (fσ66.2 129 (fun z => z) (Int32.toNatClampNeg z84.1))
                  have bb219 := wt_bd (wt_ga z41 129 (Int32.toNatClampNeg z84.1))
                  have rσ206 := wt_RI_no rσ188 eσ206 130 131 (by decide) (by decide) (by decide)
                  refine wt_T_it (fun s : Int32 × wt_St => wt_fr (fun i k => False) (fun i => (193 ≤ i ∧ i < 253)) σ206 s.2 ∧ 0 ≤ (s.1).toInt ∧ wt_RI s.2) (fun s : Int32 × wt_St => ((9 : Int32).toInt - s.1.toInt + 0).toNat) (fun KK220 z221 I222 hKK220 => ?_) _ _ ?_ ?_
                  · skip
                    obtain ⟨l223, l224, l225⟩ := I222
                    unfold wp_md_tongue_B221
                    have k226 : (9 : Int32).toInt = 9 := by decide
                    have bb227 := wt_bd z221.1
                    refine wt_T_if (fun h228 => ?_) (fun h228 => ?_)
                    · skip
                      have c229 := wt_cle h228
                      have bb230 := wt_bd (wt_gf z221.2 108 28)
                      have g231 : 0 ≤ (wt_gf z221.2 108 28).toInt ∧ (wt_gf z221.2 108 28).toInt ≤ 60 := wt_R_gf l225 6 rfl
                      have tt232 : (wt_gf z221.2 108 28).toInt = (wt_gf σ206 108 28).toInt := congrArg Int32.toInt (l223.1 108 28 (fun z => z))
                      have bb233 := wt_bd (wt_gf σ206 108 28)
                      have g234 : 0 ≤ (wt_gf σ206 108 28).toInt ∧ (wt_gf σ206 108 28).toInt ≤ 60 := wt_R_gf rσ206 6 rfl
                      have tt235 : (wt_gf σ206 108 28).toInt = (wt_gf σ188 108 28).toInt := congrArg Int32.toInt (fσ206.1 108 28 (fun z => z))
                      have bb236 := wt_bd (wt_gf σ188 108 28)
                      have g237 : 0 ≤ (wt_gf σ188 108 28).toInt ∧ (wt_gf σ188 108 28).toInt ≤ 60 := wt_R_gf rσ188 6 rfl
                      have tt238 : (wt_gf σ188 108 28).toInt = (wt_gf σ172 108 28).toInt := congrArg Int32.toInt (fσ188.1 108 28 (fun z => z))
                      have bb239 := wt_bd (wt_gf σ172 108 28)
                      have g240 : 0 ≤ (wt_gf σ172 108 28).toInt ∧ (wt_gf σ172 108 28).toInt ≤ 60 := wt_R_gf rσ172 6 rfl
                      have tt241 : (wt_gf σ172 108 28).toInt = (wt_gf z84.2 108 28).toInt := congrArg Int32.toInt (fσ172.1 108 28 (fun z => z))
                      refine hKK83 _ ⟨(wt_fr.tr (wt_fr.tr (wt_fr.tr (wt_fr.tr (wt_fr.tr wt_fr.rf l86 (fun i k h => h.elim) (fun i h => by (try dsimp only at h); rcases h with h | h | h | h; exact Or.inl (by omega); exact Or.inr (Or.inl (by omega)); exact Or.inr (Or.inr (Or.inl (by omega))); exact Or.inr (Or.inr (Or.inr ((by omega)))))) fσ172 (fun i k h => h.elim) (fun i h => by (try dsimp only at h); exact Or.inl (by omega))) fσ188 (fun i k h => h.elim) (fun i h => by (try dsimp only at h); exact Or.inr (Or.inl (by omega)))) fσ206 (fun i k h => h.elim) (fun i h => by (try dsimp only at h); exact Or.inr (Or.inr (Or.inl (by omega))))) l223 (fun i k h => h.elim) (fun i h => by (try dsimp only at h); exact Or.inr (Or.inr (Or.inr ((by omega)))))), (wt_nn (B := wt_gf z84.2 108 28) (by omega) (by omega)), l225⟩ ?_
                      show ((wt_gf z221.2 108 28).toInt - (z84.1 + (1 : Int32)).toInt + 0).toNat < ((wt_gf z84.2 108 28).toInt - z84.1.toInt + 0).toNat
                      exact wt_mu (by omega) (by omega)
                    · skip
                      have c242 := wt_ncle h228
                      refine wt_T_gd (wt_ix (by omega) (by omega)) ?_
                      refine wt_T_gd (wt_ix (by omega) (by omega)) ?_
                      refine wt_T_gd (wt_ix (by omega) (by omega)) ?_
                      refine wt_T_gd (wt_ix (by omega) (by omega)) ?_
                      obtain ⟨σ243, eσ243⟩ : ∃ z : wt_St, z = wt_sa z221.2 (193 + (Int32.toNatClampNeg z84.1)) (Int32.toNatClampNeg z221.1) (wt_ga z221.2 (132 + (Int32.toNatClampNeg z84.1)) (Int32.toNatClampNeg z221.1)) := ⟨_, rfl⟩
                      rw [← eσ243]
                      have fσ243 := wt_fr_sa eσ243
                      have vσ243 := wt_ceq (wt_v_sa eσ243)
                      have bb244 := wt_tn z221.1
                      have bb245 := wt_bd (wt_ga z221.2 (132 + (Int32.toNatClampNeg z84.1)) (Int32.toNatClampNeg z221.1))
                      have g246 : 0 ≤ (wt_ga z221.2 (132 + (Int32.toNatClampNeg z84.1)) (Int32.toNatClampNeg z221.1)).toInt ∧ (wt_ga z221.2 (132 + (Int32.toNatClampNeg z84.1)) (Int32.toNatClampNeg z221.1)).toInt ≤ 25 := wt_R_ga l225 7 rfl (132 + (Int32.toNatClampNeg z84.1)) (show 132 ≤ 132 + (Int32.toNatClampNeg z84.1) by omega) (show 132 + (Int32.toNatClampNeg z84.1) < 192 by omega) (Int32.toNatClampNeg z221.1)
                      have tt247 : (wt_ga z221.2 (132 + (Int32.toNatClampNeg z84.1)) (Int32.toNatClampNeg z221.1)).toInt = (wt_ga σ206 (132 + (Int32.toNatClampNeg z84.1)) (Int32.toNatClampNeg z221.1)).toInt := congrArg Int32.toInt (l223.2 (132 + (Int32.toNatClampNeg z84.1)) (by (try dsimp only); omega) (Int32.toNatClampNeg z221.1))
                      have bb248 := wt_bd (wt_ga σ206 (132 + (Int32.toNatClampNeg z84.1)) (Int32.toNatClampNeg z221.1))
                      have g249 : 0 ≤ (wt_ga σ206 (132 + (Int32.toNatClampNeg z84.1)) (Int32.toNatClampNeg z221.1)).toInt ∧ (wt_ga σ206 (132 + (Int32.toNatClampNeg z84.1)) (Int32.toNatClampNeg z221.1)).toInt ≤ 25 := wt_R_ga rσ206 7 rfl (132 + (Int32.toNatClampNeg z84.1)) (show 132 ≤ 132 + (Int32.toNatClampNeg z84.1) by omega) (show 132 + (Int32.toNatClampNeg z84.1) < 192 by omega) (Int32.toNatClampNeg z221.1)
                      have tt250 : (wt_ga σ206 (132 + (Int32.toNatClampNeg z84.1)) (Int32.toNatClampNeg z221.1)).toInt = (wt_ga σ188 (132 + (Int32.toNatClampNeg z84.1)) (Int32.toNatClampNeg z221.1)).toInt := congrArg Int32.toInt (fσ206.2 (132 + (Int32.toNatClampNeg z84.1)) (by (try dsimp only); omega) (Int32.toNatClampNeg z221.1))
                      have bb251 := wt_bd (wt_ga σ188 (132 + (Int32.toNatClampNeg z84.1)) (Int32.toNatClampNeg z221.1))
                      have g252 : 0 ≤ (wt_ga σ188 (132 + (Int32.toNatClampNeg z84.1)) (Int32.toNatClampNeg z221.1)).toInt ∧ (wt_ga σ188 (132 + (Int32.toNatClampNeg z84.1)) (Int32.toNatClampNeg z221.1)).toInt ≤ 25 := wt_R_ga rσ188 7 rfl (132 + (Int32.toNatClampNeg z84.1)) (show 132 ≤ 132 + (Int32.toNatClampNeg z84.1) by omega) (show 132 + (Int32.toNatClampNeg z84.1) < 192 by omega) (Int32.toNatClampNeg z221.1)
                      have tt253 : (wt_ga σ188 (132 + (Int32.toNatClampNeg z84.1)) (Int32.toNatClampNeg z221.1)).toInt = (wt_ga σ172 (132 + (Int32.toNatClampNeg z84.1)) (Int32.toNatClampNeg z221.1)).toInt := congrArg Int32.toInt (fσ188.2 (132 + (Int32.toNatClampNeg z84.1)) (by (try dsimp only); omega) (Int32.toNatClampNeg z221.1))
                      have bb254 := wt_bd (wt_ga σ172 (132 + (Int32.toNatClampNeg z84.1)) (Int32.toNatClampNeg z221.1))
                      have g255 : 0 ≤ (wt_ga σ172 (132 + (Int32.toNatClampNeg z84.1)) (Int32.toNatClampNeg z221.1)).toInt ∧ (wt_ga σ172 (132 + (Int32.toNatClampNeg z84.1)) (Int32.toNatClampNeg z221.1)).toInt ≤ 25 := wt_R_ga rσ172 7 rfl (132 + (Int32.toNatClampNeg z84.1)) (show 132 ≤ 132 + (Int32.toNatClampNeg z84.1) by omega) (show 132 + (Int32.toNatClampNeg z84.1) < 192 by omega) (Int32.toNatClampNeg z221.1)
                      have tt256 : (wt_ga σ172 (132 + (Int32.toNatClampNeg z84.1)) (Int32.toNatClampNeg z221.1)).toInt = (wt_ga z84.2 (132 + (Int32.toNatClampNeg z84.1)) (Int32.toNatClampNeg z221.1)).toInt := congrArg Int32.toInt (fσ172.2 (132 + (Int32.toNatClampNeg z84.1)) (by (try dsimp only); omega) (Int32.toNatClampNeg z221.1))
                      have bb257 := wt_bd (wt_ga z84.2 (132 + (Int32.toNatClampNeg z84.1)) (Int32.toNatClampNeg z221.1))
                      have g258 : 0 ≤ (wt_ga z84.2 (132 + (Int32.toNatClampNeg z84.1)) (Int32.toNatClampNeg z221.1)).toInt ∧ (wt_ga z84.2 (132 + (Int32.toNatClampNeg z84.1)) (Int32.toNatClampNeg z221.1)).toInt ≤ 25 := wt_R_ga l88 7 rfl (132 + (Int32.toNatClampNeg z84.1)) (show 132 ≤ 132 + (Int32.toNatClampNeg z84.1) by omega) (show 132 + (Int32.toNatClampNeg z84.1) < 192 by omega) (Int32.toNatClampNeg z221.1)
                      have tt259 : (wt_ga z84.2 (132 + (Int32.toNatClampNeg z84.1)) (Int32.toNatClampNeg z221.1)).toInt = (wt_ga σ77 (132 + (Int32.toNatClampNeg z84.1)) (Int32.toNatClampNeg z221.1)).toInt := congrArg Int32.toInt (l86.2 (132 + (Int32.toNatClampNeg z84.1)) (by (try dsimp only); omega) (Int32.toNatClampNeg z221.1))
                      have bb260 := wt_bd (wt_ga σ77 (132 + (Int32.toNatClampNeg z84.1)) (Int32.toNatClampNeg z221.1))
                      have g261 : 0 ≤ (wt_ga σ77 (132 + (Int32.toNatClampNeg z84.1)) (Int32.toNatClampNeg z221.1)).toInt ∧ (wt_ga σ77 (132 + (Int32.toNatClampNeg z84.1)) (Int32.toNatClampNeg z221.1)).toInt ≤ 25 := wt_R_ga rσ77 7 rfl (132 + (Int32.toNatClampNeg z84.1)) (show 132 ≤ 132 + (Int32.toNatClampNeg z84.1) by omega) (show 132 + (Int32.toNatClampNeg z84.1) < 192 by omega) (Int32.toNatClampNeg z221.1)
                      have tt262 : (wt_ga σ77 (132 + (Int32.toNatClampNeg z84.1)) (Int32.toNatClampNeg z221.1)).toInt = (wt_ga σ73 (132 + (Int32.toNatClampNeg z84.1)) (Int32.toNatClampNeg z221.1)).toInt := congrArg Int32.toInt (fσ77.2 (132 + (Int32.toNatClampNeg z84.1)) (fun z => z) (Int32.toNatClampNeg z221.1))
                      have bb263 := wt_bd (wt_ga σ73 (132 + (Int32.toNatClampNeg z84.1)) (Int32.toNatClampNeg z221.1))
                      have g264 : 0 ≤ (wt_ga σ73 (132 + (Int32.toNatClampNeg z84.1)) (Int32.toNatClampNeg z221.1)).toInt ∧ (wt_ga σ73 (132 + (Int32.toNatClampNeg z84.1)) (Int32.toNatClampNeg z221.1)).toInt ≤ 25 := wt_R_ga rσ73 7 rfl (132 + (Int32.toNatClampNeg z84.1)) (show 132 ≤ 132 + (Int32.toNatClampNeg z84.1) by omega) (show 132 + (Int32.toNatClampNeg z84.1) < 192 by omega) (Int32.toNatClampNeg z221.1)
                      have tt265 : (wt_ga σ73 (132 + (Int32.toNatClampNeg z84.1)) (Int32.toNatClampNeg z221.1)).toInt = (wt_ga σ66 (132 + (Int32.toNatClampNeg z84.1)) (Int32.toNatClampNeg z221.1)).toInt := congrArg Int32.toInt (fσ73.2 (132 + (Int32.toNatClampNeg z84.1)) (fun z => z) (Int32.toNatClampNeg z221.1))
                      have bb266 := wt_bd (wt_ga σ66 (132 + (Int32.toNatClampNeg z84.1)) (Int32.toNatClampNeg z221.1))
                      have g267 : 0 ≤ (wt_ga σ66 (132 + (Int32.toNatClampNeg z84.1)) (Int32.toNatClampNeg z221.1)).toInt ∧ (wt_ga σ66 (132 + (Int32.toNatClampNeg z84.1)) (Int32.toNatClampNeg z221.1)).toInt ≤ 25 := wt_R_ga rσ66 7 rfl (132 + (Int32.toNatClampNeg z84.1)) (show 132 ≤ 132 + (Int32.toNatClampNeg z84.1) by omega) (show 132 + (Int32.toNatClampNeg z84.1) < 192 by omega) (Int32.toNatClampNeg z221.1)
                      have tt268 : (wt_ga σ66 (132 + (Int32.toNatClampNeg z84.1)) (Int32.toNatClampNeg z221.1)).toInt = (wt_ga z41 (132 + (Int32.toNatClampNeg z84.1)) (Int32.toNatClampNeg z221.1)).toInt := congrArg Int32.toInt (fσ66.2 (132 + (Int32.toNatClampNeg z84.1)) (fun z => z) (Int32.toNatClampNeg z221.1))
                      have bb269 := wt_bd (wt_ga z41 (132 + (Int32.toNatClampNeg z84.1)) (Int32.toNatClampNeg z221.1))
                      have g270 : 0 ≤ (wt_ga z41 (132 + (Int32.toNatClampNeg z84.1)) (Int32.toNatClampNeg z221.1)).toInt ∧ (wt_ga z41 (132 + (Int32.toNatClampNeg z84.1)) (Int32.toNatClampNeg z221.1)).toInt ≤ 25 := wt_R_ga l44 7 rfl (132 + (Int32.toNatClampNeg z84.1)) (show 132 ≤ 132 + (Int32.toNatClampNeg z84.1) by omega) (show 132 + (Int32.toNatClampNeg z84.1) < 192 by omega) (Int32.toNatClampNeg z221.1)
                      have rσ243 := wt_RI_in l225 eσ243 8 rfl (show 193 ≤ 193 + (Int32.toNatClampNeg z84.1) by omega) (show 193 + (Int32.toNatClampNeg z84.1) < 253 by omega) (show 0 ≤ (wt_ga z221.2 (132 + (Int32.toNatClampNeg z84.1)) (Int32.toNatClampNeg z221.1)).toInt by omega) (show (wt_ga z221.2 (132 + (Int32.toNatClampNeg z84.1)) (Int32.toNatClampNeg z221.1)).toInt ≤ 25 by omega)
                      refine hKK220 _ ⟨(wt_fr.tr (wt_fr.tr wt_fr.rf l223 (fun i k h => h.elim) (fun i h => by (try dsimp only at h); exact (by omega))) fσ243 (fun i k h => h.elim) (fun i h => by (try dsimp only at h); exact (by omega))), (wt_nn (B := (9 : Int32)) (by omega) (by omega)), rσ243⟩ ?_
                      show ((9 : Int32).toInt - (z221.1 + (1 : Int32)).toInt + 0).toNat < ((9 : Int32).toInt - z221.1.toInt + 0).toNat
                      exact wt_mu (by omega) (by omega)
                  · skip
                    have k271 : (9 : Int32).toInt = 9 := by decide
                    exact ⟨wt_fr.rf, (show 0 ≤ ((0 : Int32)).toInt by omega), rσ206⟩
                  · skip
                    have k272 : (9 : Int32).toInt = 9 := by decide
                    show ((9 : Int32).toInt - (0 : Int32).toInt + 0).toNat < n
                    omega
              · skip
                have bb273 := wt_bd (wt_gf σ77 108 28)
                have g274 : 0 ≤ (wt_gf σ77 108 28).toInt ∧ (wt_gf σ77 108 28).toInt ≤ 60 := wt_R_gf rσ77 6 rfl
                have tt275 : (wt_gf σ77 108 28).toInt = (wt_gf σ73 108 28).toInt := congrArg Int32.toInt (fσ77.1 108 28 (by (try dsimp only); omega))
                have bb276 := wt_bd (wt_gf σ73 108 28)
                have g277 : 0 ≤ (wt_gf σ73 108 28).toInt ∧ (wt_gf σ73 108 28).toInt ≤ 60 := wt_R_gf rσ73 6 rfl
                exact ⟨wt_fr.rf, (show 0 ≤ ((0 : Int32)).toInt by omega), rσ77⟩
              · skip
                have bb278 := wt_bd (wt_gf σ77 108 28)
                have g279 : 0 ≤ (wt_gf σ77 108 28).toInt ∧ (wt_gf σ77 108 28).toInt ≤ 60 := wt_R_gf rσ77 6 rfl
                have tt280 : (wt_gf σ77 108 28).toInt = (wt_gf σ73 108 28).toInt := congrArg Int32.toInt (fσ77.1 108 28 (by (try dsimp only); omega))
                have bb281 := wt_bd (wt_gf σ73 108 28)
                have g282 : 0 ≤ (wt_gf σ73 108 28).toInt ∧ (wt_gf σ73 108 28).toInt ≤ 60 := wt_R_gf rσ73 6 rfl
                show ((wt_gf σ77 108 28).toInt - (0 : Int32).toInt + 0).toNat < n
                omega
            · skip
              have c283 := wt_nceq h71
              refine wt_T_some ?_
              have k284 : (10 : Int32).toInt = 10 := by decide
              obtain ⟨j285, j285a, j285b⟩ := wt_subI (wt_gf σ66 108 5) (10 : Int32)
              have bb286 := wt_bd (wt_gf σ66 108 1)
              have g287 : 0 ≤ (wt_gf σ66 108 1).toInt ∧ (wt_gf σ66 108 1).toInt ≤ 500 := wt_R_gf rσ66 0 rfl
              have tt288 : (wt_gf σ66 108 1).toInt = (wt_gf z41 108 1).toInt := congrArg Int32.toInt (fσ66.1 108 1 (by (try dsimp only); omega))
              have bb289 := wt_bd (wt_gf z41 108 1)
              have g290 : 0 ≤ (wt_gf z41 108 1).toInt ∧ (wt_gf z41 108 1).toInt ≤ 500 := wt_R_gf l44 0 rfl
              have tt291 : (wt_gf z41 108 1).toInt = (wt_gf σ39 108 1).toInt := congrArg Int32.toInt (l43.1 108 1 (by (try dsimp only); omega))
              have bb292 := wt_bd (wt_gf σ39 108 1)
              have g293 : 0 ≤ (wt_gf σ39 108 1).toInt ∧ (wt_gf σ39 108 1).toInt ≤ 500 := wt_R_gf rσ39 0 rfl
              have tt294 : (wt_gf σ39 108 1).toInt = (wt_gf σ38 108 1).toInt := congrArg Int32.toInt (fσ39.1 108 1 (by (try dsimp only); omega))
              have bb295 := wt_bd (wt_gf σ38 108 1)
              have g296 : 0 ≤ (wt_gf σ38 108 1).toInt ∧ (wt_gf σ38 108 1).toInt ≤ 500 := wt_R_gf rσ38 0 rfl
              have tt297 : (wt_gf σ38 108 1).toInt = (wt_gf r27 108 1).toInt := congrArg Int32.toInt (fσ38.1 108 1 (by (try dsimp only); omega))
              exact ⟨(wt_fr.tr (wt_fr.tr (wt_fr.tr (wt_fr.tr (wt_fr.tr (wt_fr.tr (wt_fr.tr wt_fr.rf fσ2 (fun i k h => by (try dsimp only at h); exact Or.inl (by omega)) (fun i h => h.elim)) f19 (fun i k h => by (try dsimp only at h); exact Or.inl (by omega)) (fun i h => h.elim)) f29 (fun i k h => by (try dsimp only at h); rcases h with h | h | h | h | h | h; exact Or.inr (Or.inl (by omega)); exact Or.inr (Or.inr (Or.inl (by omega))); exact Or.inr (Or.inr (Or.inr (Or.inl (by omega)))); exact Or.inr (Or.inr (Or.inr (Or.inr (Or.inl (by omega))))); exact Or.inr (Or.inr (Or.inr (Or.inr (Or.inr (Or.inl (by omega)))))); exact Or.inr (Or.inr (Or.inr (Or.inr (Or.inr (Or.inr (Or.inl (by omega)))))))) (fun i h => h.elim)) fσ38 (fun i k h => by (try dsimp only at h); exact Or.inr (Or.inr (Or.inr (Or.inr (Or.inr (Or.inr (Or.inr (Or.inl (by omega))))))))) (fun i h => h.elim)) fσ39 (fun i k h => by (try dsimp only at h); exact Or.inr (Or.inr (Or.inr (Or.inr (Or.inr (Or.inr (Or.inr (Or.inr (Or.inl (by omega)))))))))) (fun i h => h.elim)) l43 (fun i k h => by (try dsimp only at h); rcases h with h | h | h | h | h; exact Or.inr (Or.inr (Or.inr (Or.inl (by omega)))); exact Or.inr (Or.inr (Or.inr (Or.inr (Or.inl (by omega))))); exact Or.inr (Or.inr (Or.inr (Or.inr (Or.inr (Or.inl (by omega)))))); exact Or.inr (Or.inr (Or.inr (Or.inr (Or.inr (Or.inr (Or.inr (Or.inr (Or.inl (by omega))))))))); exact Or.inr (Or.inr (Or.inr (Or.inr (Or.inr (Or.inr (Or.inr (Or.inl (by omega))))))))) (fun i h => by (try dsimp only at h); rcases h with h | h | h | h; exact Or.inr (Or.inr (Or.inr (Or.inr (Or.inr (Or.inr (Or.inl (by omega))))))); exact Or.inr (Or.inr (Or.inr (Or.inr (Or.inr (Or.inr (Or.inr (Or.inl (by omega)))))))); exact Or.inr (Or.inr (Or.inr (Or.inr (Or.inr (Or.inr (Or.inr (Or.inr (Or.inl (by omega))))))))); exact Or.inr (Or.inr (Or.inr (Or.inr (Or.inr (Or.inr (Or.inr (Or.inr (Or.inr ((by omega)))))))))))) fσ66 (fun i k h => by (try dsimp only at h); exact Or.inr (Or.inr (Or.inr (Or.inr (Or.inr (Or.inr (Or.inr (Or.inr (Or.inr (Or.inl (by omega))))))))))) (fun i h => h.elim)), rσ66, (show ((x1.toInt < 0 ∨ (wt_gf σ 108 1).toInt < x1.toInt → (wt_gf σ66 108 1).toInt = (wt_gf σ 108 1).toInt) ∧ (0 ≤ x1.toInt ∧ x1.toInt ≤ (wt_gf σ 108 1).toInt → (wt_gf σ66 108 1).toInt = 0)) from by omega)⟩
          · skip
            have c298 := wt_ncle h64
            refine wt_T_bi (wq_md_reads n hn (0 : Int32) z41 l44 (by omega) (by omega)) (fun r299 h300 => ?_)
            obtain ⟨f301, ri302, pp303⟩ := h300
            have bb304 := wt_bd (wt_gf r299 108 5)
            have g305 : 0 ≤ (wt_gf r299 108 5).toInt ∧ (wt_gf r299 108 5).toInt ≤ 3 := wt_R_gf ri302 3 rfl
            have bb306 := wt_bd (wt_gf r299 108 27)
            have g307 : 0 ≤ (wt_gf r299 108 27).toInt ∧ (wt_gf r299 108 27).toInt ≤ 60 := wt_R_gf ri302 5 rfl
            refine wt_T_bi (wq_md_blanks n hn r299 ri302) (fun r308 h309 => ?_)
            obtain ⟨f310, ri311, pp312⟩ := h309
            have bb313 := wt_bd (wt_gf r299 108 4)
            have g314 : 0 ≤ (wt_gf r299 108 4).toInt ∧ (wt_gf r299 108 4).toInt ≤ 500 := wt_R_gf ri302 2 rfl
            have bb315 := wt_bd (wt_gf r308 108 4)
            have g316 : 0 ≤ (wt_gf r308 108 4).toInt ∧ (wt_gf r308 108 4).toInt ≤ 500 := wt_R_gf ri311 2 rfl
            refine wt_T_it (fun s : Int32 × wt_St => wt_fr (fun i k => (i = 108 ∧ k = 4) ∨ (i = 108 ∧ k = 5) ∨ (i = 108 ∧ k = 6) ∨ (i = 108 ∧ k = 29) ∨ (i = 108 ∧ k = 27)) (fun i => i = 125 ∨ i = 127 ∨ i = 129 ∨ (132 ≤ i ∧ i < 192)) r308 s.2 ∧ 1 ≤ s.1.toInt ∧ s.1.toInt ≤ 6 ∧ (s.1.toInt ≤ 5 ∨ (wt_gf s.2 108 5).toInt ≠ 0) ∧ (wt_gf z41 108 27).toInt ≤ (wt_gf s.2 108 27).toInt ∧ ((wt_gf s.2 108 5).toInt ≠ 0 ∨ (wt_gf z41 108 27).toInt < (wt_gf s.2 108 27).toInt) ∧ wt_RI s.2) (fun s : Int32 × wt_St => (6 - s.1.toInt).toNat) (fun KK317 z318 I319 hKK317 => ?_) _ _ ?_ ?_
            · skip
              obtain ⟨l320, l321, l322, l323, l324, l325, l326⟩ := I319
              unfold wp_md_tongue_B76
              have bb327 := wt_bd (wt_gf z318.2 108 5)
              have g328 : 0 ≤ (wt_gf z318.2 108 5).toInt ∧ (wt_gf z318.2 108 5).toInt ≤ 3 := wt_R_gf l326 3 rfl
              have bb329 := wt_bd (wt_gf z318.2 108 27)
              have g330 : 0 ≤ (wt_gf z318.2 108 27).toInt ∧ (wt_gf z318.2 108 27).toInt ≤ 60 := wt_R_gf l326 5 rfl
              have bb331 := wt_bd z318.1
              refine wt_T_if (fun h332 => ?_) (fun h332 => ?_)
              · skip
                have c333 := wt_ceq h332
                have bb334 := wt_bd (wt_gf z318.2 108 4)
                have g335 : 0 ≤ (wt_gf z318.2 108 4).toInt ∧ (wt_gf z318.2 108 4).toInt ≤ 500 := wt_R_gf l326 2 rfl
                refine wt_T_bi (wq_md_byteAt n hn (wt_gf z318.2 108 4) z318.2 l326 (by omega)) (fun r336 h337 => ?_)
                obtain ⟨e338, pp339⟩ := h337
                have bb340 := wt_bd r336.1
                rw [e338]
                have bb341 := wt_bd (wt_gf z318.2 108 2)
                have g342 : 0 ≤ (wt_gf z318.2 108 2).toInt ∧ (wt_gf z318.2 108 2).toInt ≤ 500 := wt_R_gf l326 1 rfl
                have tt343 : (wt_gf z318.2 108 2).toInt = (wt_gf r308 108 2).toInt := congrArg Int32.toInt (l320.1 108 2 (by (try dsimp only); omega))
                have bb344 := wt_bd (wt_gf r308 108 2)
                have g345 : 0 ≤ (wt_gf r308 108 2).toInt ∧ (wt_gf r308 108 2).toInt ≤ 500 := wt_R_gf ri311 1 rfl
                have tt346 : (wt_gf r308 108 2).toInt = (wt_gf r299 108 2).toInt := congrArg Int32.toInt (f310.1 108 2 (by (try dsimp only); omega))
                have bb347 := wt_bd (wt_gf r299 108 2)
                have g348 : 0 ≤ (wt_gf r299 108 2).toInt ∧ (wt_gf r299 108 2).toInt ≤ 500 := wt_R_gf ri302 1 rfl
                have tt349 : (wt_gf r299 108 2).toInt = (wt_gf z41 108 2).toInt := congrArg Int32.toInt (f301.1 108 2 (by (try dsimp only); omega))
                have bb350 := wt_tn (wt_gf z318.2 108 4)
                have bb351 := wt_bd (wt_ga z318.2 109 (Int32.toNatClampNeg (wt_gf z318.2 108 4)))
                have tt352 : (wt_ga z318.2 109 (Int32.toNatClampNeg (wt_gf z318.2 108 4))).toInt = (wt_ga r308 109 (Int32.toNatClampNeg (wt_gf z318.2 108 4))).toInt := congrArg Int32.toInt (l320.2 109 (by (try dsimp only); omega) (Int32.toNatClampNeg (wt_gf z318.2 108 4)))
                have bb353 := wt_bd (wt_ga r308 109 (Int32.toNatClampNeg (wt_gf z318.2 108 4)))
                have tt354 : (wt_ga r308 109 (Int32.toNatClampNeg (wt_gf z318.2 108 4))).toInt = (wt_ga r299 109 (Int32.toNatClampNeg (wt_gf z318.2 108 4))).toInt := congrArg Int32.toInt (f310.2 109 (fun z => z) (Int32.toNatClampNeg (wt_gf z318.2 108 4)))
                have bb355 := wt_bd (wt_ga r299 109 (Int32.toNatClampNeg (wt_gf z318.2 108 4)))
                have tt356 : (wt_ga r299 109 (Int32.toNatClampNeg (wt_gf z318.2 108 4))).toInt = (wt_ga z41 109 (Int32.toNatClampNeg (wt_gf z318.2 108 4))).toInt := congrArg Int32.toInt (f301.2 109 (by (try dsimp only); omega) (Int32.toNatClampNeg (wt_gf z318.2 108 4)))
                have bb357 := wt_bd (wt_ga z41 109 (Int32.toNatClampNeg (wt_gf z318.2 108 4)))
                have tt358 : (wt_ga z41 109 (Int32.toNatClampNeg (wt_gf z318.2 108 4))).toInt = (wt_ga σ39 109 (Int32.toNatClampNeg (wt_gf z318.2 108 4))).toInt := congrArg Int32.toInt (l43.2 109 (by (try dsimp only); omega) (Int32.toNatClampNeg (wt_gf z318.2 108 4)))
                have bb359 := wt_bd (wt_ga σ39 109 (Int32.toNatClampNeg (wt_gf z318.2 108 4)))
                have tt360 : (wt_ga σ39 109 (Int32.toNatClampNeg (wt_gf z318.2 108 4))).toInt = (wt_ga σ38 109 (Int32.toNatClampNeg (wt_gf z318.2 108 4))).toInt := congrArg Int32.toInt (fσ39.2 109 (fun z => z) (Int32.toNatClampNeg (wt_gf z318.2 108 4)))
                have bb361 := wt_bd (wt_ga σ38 109 (Int32.toNatClampNeg (wt_gf z318.2 108 4)))
                have tt362 : (wt_ga σ38 109 (Int32.toNatClampNeg (wt_gf z318.2 108 4))).toInt = (wt_ga r27 109 (Int32.toNatClampNeg (wt_gf z318.2 108 4))).toInt := congrArg Int32.toInt (fσ38.2 109 (fun z => z) (Int32.toNatClampNeg (wt_gf z318.2 108 4)))
                have bb363 := wt_bd (wt_ga r27 109 (Int32.toNatClampNeg (wt_gf z318.2 108 4)))
                have tt364 : (wt_ga r27 109 (Int32.toNatClampNeg (wt_gf z318.2 108 4))).toInt = (wt_ga r17.2 109 (Int32.toNatClampNeg (wt_gf z318.2 108 4))).toInt := congrArg Int32.toInt (f29.2 109 (fun z => z) (Int32.toNatClampNeg (wt_gf z318.2 108 4)))
                have bb365 := wt_bd (wt_ga r17.2 109 (Int32.toNatClampNeg (wt_gf z318.2 108 4)))
                have tt366 : (wt_ga r17.2 109 (Int32.toNatClampNeg (wt_gf z318.2 108 4))).toInt = (wt_ga σ2 109 (Int32.toNatClampNeg (wt_gf z318.2 108 4))).toInt := congrArg Int32.toInt (f19.2 109 (fun z => z) (Int32.toNatClampNeg (wt_gf z318.2 108 4)))
                have bb367 := wt_bd (wt_ga σ2 109 (Int32.toNatClampNeg (wt_gf z318.2 108 4)))
                have tt368 : (wt_ga σ2 109 (Int32.toNatClampNeg (wt_gf z318.2 108 4))).toInt = (wt_ga σ 109 (Int32.toNatClampNeg (wt_gf z318.2 108 4))).toInt := congrArg Int32.toInt (fσ2.2 109 (fun z => z) (Int32.toNatClampNeg (wt_gf z318.2 108 4)))
                have bb369 := wt_bd (wt_ga σ 109 (Int32.toNatClampNeg (wt_gf z318.2 108 4)))
                have k370 : (44 : Int32).toInt = 44 := by decide
                refine wt_T_if (fun h371 => ?_) (fun h371 => ?_)
                · skip
                  have c372 := wt_ceq h371
                  obtain ⟨σ373, eσ373⟩ : ∃ z : wt_St, z = wt_sf z318.2 108 4 ((wt_gf z318.2 108 4) + (1 : Int32)) := ⟨_, rfl⟩
                  rw [← eσ373]
                  have fσ373 := wt_fr_sf eσ373
                  have vσ373 := wt_ceq (wt_v_sf eσ373)
                  obtain ⟨j374, j374a, j374b⟩ := wt_addI (wt_gf z318.2 108 4) (1 : Int32)
                  have rσ373 := wt_RI_fin l326 eσ373 2 rfl rfl (show 0 ≤ ((wt_gf z318.2 108 4) + (1 : Int32)).toInt by omega) (show ((wt_gf z318.2 108 4) + (1 : Int32)).toInt ≤ 500 by omega)
                  refine wt_T_bi (wq_md_reads n hn z318.1 σ373 rσ373 (by omega) (by omega)) (fun r375 h376 => ?_)
                  obtain ⟨f377, ri378, pp379⟩ := h376
                  have bb380 := wt_bd (wt_gf r375 108 5)
                  have g381 : 0 ≤ (wt_gf r375 108 5).toInt ∧ (wt_gf r375 108 5).toInt ≤ 3 := wt_R_gf ri378 3 rfl
                  have bb382 := wt_bd (wt_gf σ373 108 27)
                  have g383 : 0 ≤ (wt_gf σ373 108 27).toInt ∧ (wt_gf σ373 108 27).toInt ≤ 60 := wt_R_gf rσ373 5 rfl
                  have tt384 : (wt_gf σ373 108 27).toInt = (wt_gf z318.2 108 27).toInt := congrArg Int32.toInt (fσ373.1 108 27 (by (try dsimp only); omega))
                  have bb385 := wt_bd (wt_gf r375 108 27)
                  have g386 : 0 ≤ (wt_gf r375 108 27).toInt ∧ (wt_gf r375 108 27).toInt ≤ 60 := wt_R_gf ri378 5 rfl
                  refine wt_T_bi (wq_md_blanks n hn r375 ri378) (fun r387 h388 => ?_)
                  obtain ⟨f389, ri390, pp391⟩ := h388
                  have bb392 := wt_bd (wt_gf r375 108 4)
                  have g393 : 0 ≤ (wt_gf r375 108 4).toInt ∧ (wt_gf r375 108 4).toInt ≤ 500 := wt_R_gf ri378 2 rfl
                  have bb394 := wt_bd (wt_gf r387 108 4)
                  have g395 : 0 ≤ (wt_gf r387 108 4).toInt ∧ (wt_gf r387 108 4).toInt ≤ 500 := wt_R_gf ri390 2 rfl
                  obtain ⟨j396, j396a, j396b⟩ := wt_addI z318.1 (1 : Int32)
                  have bb397 := wt_bd (wt_gf r387 108 5)
                  have g398 : 0 ≤ (wt_gf r387 108 5).toInt ∧ (wt_gf r387 108 5).toInt ≤ 3 := wt_R_gf ri390 3 rfl
                  have tt399 : (wt_gf r387 108 5).toInt = (wt_gf r375 108 5).toInt := congrArg Int32.toInt (f389.1 108 5 (by (try dsimp only); omega))
                  have bb400 := wt_bd (wt_gf r387 108 27)
                  have g401 : 0 ≤ (wt_gf r387 108 27).toInt ∧ (wt_gf r387 108 27).toInt ≤ 60 := wt_R_gf ri390 5 rfl
                  have tt402 : (wt_gf r387 108 27).toInt = (wt_gf r375 108 27).toInt := congrArg Int32.toInt (f389.1 108 27 (by (try dsimp only); omega))
                  refine hKK317 _ ⟨(wt_fr.tr (wt_fr.tr (wt_fr.tr (wt_fr.tr wt_fr.rf l320 (fun i k h => by (try dsimp only at h); rcases h with h | h | h | h | h; exact Or.inl (by omega); exact Or.inr (Or.inl (by omega)); exact Or.inr (Or.inr (Or.inl (by omega))); exact Or.inr (Or.inr (Or.inr (Or.inl (by omega)))); exact Or.inr (Or.inr (Or.inr (Or.inr ((by omega)))))) (fun i h => by (try dsimp only at h); rcases h with h | h | h | h; exact Or.inl (by omega); exact Or.inr (Or.inl (by omega)); exact Or.inr (Or.inr (Or.inl (by omega))); exact Or.inr (Or.inr (Or.inr ((by omega)))))) fσ373 (fun i k h => by (try dsimp only at h); exact Or.inl (by omega)) (fun i h => h.elim)) f377 (fun i k h => by (try dsimp only at h); rcases h with h | h | h | h | h; exact Or.inl (by omega); exact Or.inr (Or.inl (by omega)); exact Or.inr (Or.inr (Or.inl (by omega))); exact Or.inr (Or.inr (Or.inr (Or.inl (by omega)))); exact Or.inr (Or.inr (Or.inr (Or.inr ((by omega)))))) (fun i h => by (try dsimp only at h); rcases h with h | h | h | h; exact Or.inl (by omega); exact Or.inr (Or.inl (by omega)); exact Or.inr (Or.inr (Or.inl (by omega))); exact Or.inr (Or.inr (Or.inr ((by omega)))))) f389 (fun i k h => by (try dsimp only at h); exact Or.inl (by omega)) (fun i h => h.elim)), (show 1 ≤ (z318.1 + (1 : Int32)).toInt by omega), (show (z318.1 + (1 : Int32)).toInt ≤ 6 by omega), (show ((z318.1 + (1 : Int32)).toInt ≤ 5 ∨ (wt_gf r387 108 5).toInt ≠ 0) by omega), (show (wt_gf z41 108 27).toInt ≤ (wt_gf r387 108 27).toInt by omega), (show ((wt_gf r387 108 5).toInt ≠ 0 ∨ (wt_gf z41 108 27).toInt < (wt_gf r387 108 27).toInt) by omega), ri390⟩ ?_
                  show (6 - (z318.1 + (1 : Int32)).toInt).toNat < (6 - z318.1.toInt).toNat
                  omega
                · skip
                  have c403 := wt_nceq h371
                  unfold wp_md_tongue_B121
                  have k404 : (59 : Int32).toInt = 59 := by decide
                  refine wt_T_bi (wq_md_closes n hn (59 : Int32) z318.2 l326 (by omega)) (fun r405 h406 => ?_)
                  obtain ⟨f407, ri408, pp409⟩ := h406
                  have bb410 := wt_bd (wt_gf r405 108 5)
                  have g411 : 0 ≤ (wt_gf r405 108 5).toInt ∧ (wt_gf r405 108 5).toInt ≤ 3 := wt_R_gf ri408 3 rfl
                  refine wt_T_bi (wq_md_blanks n hn r405 ri408) (fun r412 h413 => ?_)
                  obtain ⟨f414, ri415, pp416⟩ := h413
                  have bb417 := wt_bd (wt_gf r405 108 4)
                  have g418 : 0 ≤ (wt_gf r405 108 4).toInt ∧ (wt_gf r405 108 4).toInt ≤ 500 := wt_R_gf ri408 2 rfl
                  have bb419 := wt_bd (wt_gf r412 108 4)
                  have g420 : 0 ≤ (wt_gf r412 108 4).toInt ∧ (wt_gf r412 108 4).toInt ≤ 500 := wt_R_gf ri415 2 rfl
                  have bb421 := wt_bd (wt_gf r412 108 27)
                  have g422 : 0 ≤ (wt_gf r412 108 27).toInt ∧ (wt_gf r412 108 27).toInt ≤ 60 := wt_R_gf ri415 5 rfl
                  have tt423 : (wt_gf r412 108 27).toInt = (wt_gf r405 108 27).toInt := congrArg Int32.toInt (f414.1 108 27 (by (try dsimp only); omega))
                  have bb424 := wt_bd (wt_gf r405 108 27)
                  have g425 : 0 ≤ (wt_gf r405 108 27).toInt ∧ (wt_gf r405 108 27).toInt ≤ 60 := wt_R_gf ri408 5 rfl
                  have tt426 : (wt_gf r405 108 27).toInt = (wt_gf z318.2 108 27).toInt := congrArg Int32.toInt (f407.1 108 27 (by (try dsimp only); omega))
                  have bb427 := wt_bd (wt_gf r412 108 5)
                  have g428 : 0 ≤ (wt_gf r412 108 5).toInt ∧ (wt_gf r412 108 5).toInt ≤ 3 := wt_R_gf ri415 3 rfl
                  have tt429 : (wt_gf r412 108 5).toInt = (wt_gf r405 108 5).toInt := congrArg Int32.toInt (f414.1 108 5 (by (try dsimp only); omega))
                  refine hKK40 _ ⟨(wt_fr.tr (wt_fr.tr (wt_fr.tr (wt_fr.tr (wt_fr.tr (wt_fr.tr wt_fr.rf l43 (fun i k h => by (try dsimp only at h); rcases h with h | h | h | h | h; exact Or.inl (by omega); exact Or.inr (Or.inl (by omega)); exact Or.inr (Or.inr (Or.inl (by omega))); exact Or.inr (Or.inr (Or.inr (Or.inl (by omega)))); exact Or.inr (Or.inr (Or.inr (Or.inr ((by omega)))))) (fun i h => by (try dsimp only at h); rcases h with h | h | h | h; exact Or.inl (by omega); exact Or.inr (Or.inl (by omega)); exact Or.inr (Or.inr (Or.inl (by omega))); exact Or.inr (Or.inr (Or.inr ((by omega)))))) f301 (fun i k h => by (try dsimp only at h); rcases h with h | h | h | h | h; exact Or.inl (by omega); exact Or.inr (Or.inl (by omega)); exact Or.inr (Or.inr (Or.inl (by omega))); exact Or.inr (Or.inr (Or.inr (Or.inl (by omega)))); exact Or.inr (Or.inr (Or.inr (Or.inr ((by omega)))))) (fun i h => by (try dsimp only at h); rcases h with h | h | h | h; exact Or.inl (by omega); exact Or.inr (Or.inl (by omega)); exact Or.inr (Or.inr (Or.inl (by omega))); exact Or.inr (Or.inr (Or.inr ((by omega)))))) f310 (fun i k h => by (try dsimp only at h); exact Or.inl (by omega)) (fun i h => h.elim)) l320 (fun i k h => by (try dsimp only at h); rcases h with h | h | h | h | h; exact Or.inl (by omega); exact Or.inr (Or.inl (by omega)); exact Or.inr (Or.inr (Or.inl (by omega))); exact Or.inr (Or.inr (Or.inr (Or.inl (by omega)))); exact Or.inr (Or.inr (Or.inr (Or.inr ((by omega)))))) (fun i h => by (try dsimp only at h); rcases h with h | h | h | h; exact Or.inl (by omega); exact Or.inr (Or.inl (by omega)); exact Or.inr (Or.inr (Or.inl (by omega))); exact Or.inr (Or.inr (Or.inr ((by omega)))))) f407 (fun i k h => by (try dsimp only at h); rcases h with h | h | h; exact Or.inl (by omega); exact Or.inr (Or.inl (by omega)); exact Or.inr (Or.inr (Or.inl (by omega)))) (fun i h => h.elim)) f414 (fun i k h => by (try dsimp only at h); exact Or.inl (by omega)) (fun i h => h.elim)), ri415⟩ ?_
                  show (4 * (60 - (wt_gf r412 108 27).toInt) + 3 - (wt_gf r412 108 5).toInt).toNat < (4 * (60 - (wt_gf z41 108 27).toInt) + 3 - (wt_gf z41 108 5).toInt).toNat
                  omega
              · skip
                have c430 := wt_nceq h332
                unfold wp_md_tongue_B121
                have k431 : (59 : Int32).toInt = 59 := by decide
                refine wt_T_bi (wq_md_closes n hn (59 : Int32) z318.2 l326 (by omega)) (fun r432 h433 => ?_)
                obtain ⟨f434, ri435, pp436⟩ := h433
                have bb437 := wt_bd (wt_gf r432 108 5)
                have g438 : 0 ≤ (wt_gf r432 108 5).toInt ∧ (wt_gf r432 108 5).toInt ≤ 3 := wt_R_gf ri435 3 rfl
                refine wt_T_bi (wq_md_blanks n hn r432 ri435) (fun r439 h440 => ?_)
                obtain ⟨f441, ri442, pp443⟩ := h440
                have bb444 := wt_bd (wt_gf r432 108 4)
                have g445 : 0 ≤ (wt_gf r432 108 4).toInt ∧ (wt_gf r432 108 4).toInt ≤ 500 := wt_R_gf ri435 2 rfl
                have bb446 := wt_bd (wt_gf r439 108 4)
                have g447 : 0 ≤ (wt_gf r439 108 4).toInt ∧ (wt_gf r439 108 4).toInt ≤ 500 := wt_R_gf ri442 2 rfl
                have bb448 := wt_bd (wt_gf r439 108 27)
                have g449 : 0 ≤ (wt_gf r439 108 27).toInt ∧ (wt_gf r439 108 27).toInt ≤ 60 := wt_R_gf ri442 5 rfl
                have tt450 : (wt_gf r439 108 27).toInt = (wt_gf r432 108 27).toInt := congrArg Int32.toInt (f441.1 108 27 (by (try dsimp only); omega))
                have bb451 := wt_bd (wt_gf r432 108 27)
                have g452 : 0 ≤ (wt_gf r432 108 27).toInt ∧ (wt_gf r432 108 27).toInt ≤ 60 := wt_R_gf ri435 5 rfl
                have tt453 : (wt_gf r432 108 27).toInt = (wt_gf z318.2 108 27).toInt := congrArg Int32.toInt (f434.1 108 27 (by (try dsimp only); omega))
                have bb454 := wt_bd (wt_gf r439 108 5)
                have g455 : 0 ≤ (wt_gf r439 108 5).toInt ∧ (wt_gf r439 108 5).toInt ≤ 3 := wt_R_gf ri442 3 rfl
                have tt456 : (wt_gf r439 108 5).toInt = (wt_gf r432 108 5).toInt := congrArg Int32.toInt (f441.1 108 5 (by (try dsimp only); omega))
                refine hKK40 _ ⟨(wt_fr.tr (wt_fr.tr (wt_fr.tr (wt_fr.tr (wt_fr.tr (wt_fr.tr wt_fr.rf l43 (fun i k h => by (try dsimp only at h); rcases h with h | h | h | h | h; exact Or.inl (by omega); exact Or.inr (Or.inl (by omega)); exact Or.inr (Or.inr (Or.inl (by omega))); exact Or.inr (Or.inr (Or.inr (Or.inl (by omega)))); exact Or.inr (Or.inr (Or.inr (Or.inr ((by omega)))))) (fun i h => by (try dsimp only at h); rcases h with h | h | h | h; exact Or.inl (by omega); exact Or.inr (Or.inl (by omega)); exact Or.inr (Or.inr (Or.inl (by omega))); exact Or.inr (Or.inr (Or.inr ((by omega)))))) f301 (fun i k h => by (try dsimp only at h); rcases h with h | h | h | h | h; exact Or.inl (by omega); exact Or.inr (Or.inl (by omega)); exact Or.inr (Or.inr (Or.inl (by omega))); exact Or.inr (Or.inr (Or.inr (Or.inl (by omega)))); exact Or.inr (Or.inr (Or.inr (Or.inr ((by omega)))))) (fun i h => by (try dsimp only at h); rcases h with h | h | h | h; exact Or.inl (by omega); exact Or.inr (Or.inl (by omega)); exact Or.inr (Or.inr (Or.inl (by omega))); exact Or.inr (Or.inr (Or.inr ((by omega)))))) f310 (fun i k h => by (try dsimp only at h); exact Or.inl (by omega)) (fun i h => h.elim)) l320 (fun i k h => by (try dsimp only at h); rcases h with h | h | h | h | h; exact Or.inl (by omega); exact Or.inr (Or.inl (by omega)); exact Or.inr (Or.inr (Or.inl (by omega))); exact Or.inr (Or.inr (Or.inr (Or.inl (by omega)))); exact Or.inr (Or.inr (Or.inr (Or.inr ((by omega)))))) (fun i h => by (try dsimp only at h); rcases h with h | h | h | h; exact Or.inl (by omega); exact Or.inr (Or.inl (by omega)); exact Or.inr (Or.inr (Or.inl (by omega))); exact Or.inr (Or.inr (Or.inr ((by omega)))))) f434 (fun i k h => by (try dsimp only at h); rcases h with h | h | h; exact Or.inl (by omega); exact Or.inr (Or.inl (by omega)); exact Or.inr (Or.inr (Or.inl (by omega)))) (fun i h => h.elim)) f441 (fun i k h => by (try dsimp only at h); exact Or.inl (by omega)) (fun i h => h.elim)), ri442⟩ ?_
                show (4 * (60 - (wt_gf r439 108 27).toInt) + 3 - (wt_gf r439 108 5).toInt).toNat < (4 * (60 - (wt_gf z41 108 27).toInt) + 3 - (wt_gf z41 108 5).toInt).toNat
                omega
            · skip
              have bb457 := wt_bd (wt_gf r308 108 5)
              have g458 : 0 ≤ (wt_gf r308 108 5).toInt ∧ (wt_gf r308 108 5).toInt ≤ 3 := wt_R_gf ri311 3 rfl
              have tt459 : (wt_gf r308 108 5).toInt = (wt_gf r299 108 5).toInt := congrArg Int32.toInt (f310.1 108 5 (by (try dsimp only); omega))
              have bb460 := wt_bd (wt_gf r308 108 27)
              have g461 : 0 ≤ (wt_gf r308 108 27).toInt ∧ (wt_gf r308 108 27).toInt ≤ 60 := wt_R_gf ri311 5 rfl
              have tt462 : (wt_gf r308 108 27).toInt = (wt_gf r299 108 27).toInt := congrArg Int32.toInt (f310.1 108 27 (by (try dsimp only); omega))
              exact ⟨wt_fr.rf, (show 1 ≤ (1 : Int32).toInt by omega), (show (1 : Int32).toInt ≤ 6 by omega), (show ((1 : Int32).toInt ≤ 5 ∨ (wt_gf r308 108 5).toInt ≠ 0) by omega), (show (wt_gf z41 108 27).toInt ≤ (wt_gf r308 108 27).toInt by omega), (show ((wt_gf r308 108 5).toInt ≠ 0 ∨ (wt_gf z41 108 27).toInt < (wt_gf r308 108 27).toInt) by omega), ri311⟩
            · skip
              show (6 - (1 : Int32).toInt).toNat < n
              omega
        · skip
          have c463 := wt_nceq h49
          unfold wp_md_tongue_B134
          obtain ⟨σ464, eσ464⟩ : ∃ z : wt_St, z = wt_sf z41 108 3 (wt_gf z41 108 6) := ⟨_, rfl⟩
          rw [← eσ464]
          have fσ464 := wt_fr_sf eσ464
          have vσ464 := wt_ceq (wt_v_sf eσ464)
          have bb465 := wt_bd (wt_gf z41 108 6)
          have rσ464 := wt_RI_fno l44 eσ464 (Or.inr (by decide))
          have bb466 := wt_bd (wt_gf σ464 108 5)
          have g467 : 0 ≤ (wt_gf σ464 108 5).toInt ∧ (wt_gf σ464 108 5).toInt ≤ 3 := wt_R_gf rσ464 3 rfl
          have tt468 : (wt_gf σ464 108 5).toInt = (wt_gf z41 108 5).toInt := congrArg Int32.toInt (fσ464.1 108 5 (by (try dsimp only); omega))
          refine wt_T_if (fun h469 => ?_) (fun h469 => ?_)
          · skip
            have c470 := wt_ceq h469
            obtain ⟨σ471, eσ471⟩ : ∃ z : wt_St, z = wt_sf σ464 108 28 (wt_gf σ464 108 27) := ⟨_, rfl⟩
            rw [← eσ471]
            have fσ471 := wt_fr_sf eσ471
            have vσ471 := wt_ceq (wt_v_sf eσ471)
            have bb472 := wt_bd (wt_gf σ464 108 27)
            have g473 : 0 ≤ (wt_gf σ464 108 27).toInt ∧ (wt_gf σ464 108 27).toInt ≤ 60 := wt_R_gf rσ464 5 rfl
            have tt474 : (wt_gf σ464 108 27).toInt = (wt_gf z41 108 27).toInt := congrArg Int32.toInt (fσ464.1 108 27 (by (try dsimp only); omega))
            have rσ471 := wt_RI_fin rσ464 eσ471 6 rfl rfl (show 0 ≤ (wt_gf σ464 108 27).toInt by omega) (show (wt_gf σ464 108 27).toInt ≤ 60 by omega)
            obtain ⟨σ475, eσ475⟩ : ∃ z : wt_St, z = wt_sf σ471 108 30 (wt_gf σ471 108 29) := ⟨_, rfl⟩
            rw [← eσ475]
            have fσ475 := wt_fr_sf eσ475
            have vσ475 := wt_ceq (wt_v_sf eσ475)
            have bb476 := wt_bd (wt_gf σ471 108 29)
            have tt477 : (wt_gf σ471 108 29).toInt = (wt_gf σ464 108 29).toInt := congrArg Int32.toInt (fσ471.1 108 29 (by (try dsimp only); omega))
            have bb478 := wt_bd (wt_gf σ464 108 29)
            have tt479 : (wt_gf σ464 108 29).toInt = (wt_gf z41 108 29).toInt := congrArg Int32.toInt (fσ464.1 108 29 (by (try dsimp only); omega))
            have bb480 := wt_bd (wt_gf z41 108 29)
            have rσ475 := wt_RI_fno rσ471 eσ475 (Or.inr (by decide))
            refine wt_T_it (fun s : Int32 × wt_St => wt_fr (fun i k => False) (fun i => i = 126 ∨ i = 128 ∨ i = 130 ∨ (193 ≤ i ∧ i < 253)) σ475 s.2 ∧ 0 ≤ (s.1).toInt ∧ wt_RI s.2) (fun s : Int32 × wt_St => ((wt_gf s.2 108 28).toInt - s.1.toInt + 0).toNat) (fun KK481 z482 I483 hKK481 => ?_) _ _ ?_ ?_
            · skip
              obtain ⟨l484, l485, l486⟩ := I483
              unfold wp_md_tongue_B175
              have bb487 := wt_bd (wt_gf z482.2 108 28)
              have g488 : 0 ≤ (wt_gf z482.2 108 28).toInt ∧ (wt_gf z482.2 108 28).toInt ≤ 60 := wt_R_gf l486 6 rfl
              have tt489 : (wt_gf z482.2 108 28).toInt = (wt_gf σ475 108 28).toInt := congrArg Int32.toInt (l484.1 108 28 (fun z => z))
              have bb490 := wt_bd (wt_gf σ475 108 28)
              have g491 : 0 ≤ (wt_gf σ475 108 28).toInt ∧ (wt_gf σ475 108 28).toInt ≤ 60 := wt_R_gf rσ475 6 rfl
              have tt492 : (wt_gf σ475 108 28).toInt = (wt_gf σ471 108 28).toInt := congrArg Int32.toInt (fσ475.1 108 28 (by (try dsimp only); omega))
              have bb493 := wt_bd (wt_gf σ471 108 28)
              have g494 : 0 ≤ (wt_gf σ471 108 28).toInt ∧ (wt_gf σ471 108 28).toInt ≤ 60 := wt_R_gf rσ471 6 rfl
              have bb495 := wt_bd z482.1
              refine wt_T_if (fun h496 => ?_) (fun h496 => ?_)
              · skip
                have c497 := wt_cle h496
                obtain ⟨σ498, eσ498⟩ : ∃ z : wt_St, z = wt_sf z482.2 108 39 (0 : Int32) := ⟨_, rfl⟩
                rw [← eσ498]
                have fσ498 := wt_fr_sf eσ498
                have vσ498 := wt_ceq (wt_v_sf eσ498)
                have rσ498 := wt_RI_fin l486 eσ498 7 rfl rfl (show 0 ≤ ((0 : Int32)).toInt by omega) (show ((0 : Int32)).toInt ≤ 8 by omega)
                obtain ⟨σ499, eσ499⟩ : ∃ z : wt_St, z = wt_sf σ498 108 40 (0 : Int32) := ⟨_, rfl⟩
                rw [← eσ499]
                have fσ499 := wt_fr_sf eσ499
                have vσ499 := wt_ceq (wt_v_sf eσ499)
                have rσ499 := wt_RI_fin rσ498 eσ499 8 rfl rfl (show 0 ≤ ((0 : Int32)).toInt by omega) (show ((0 : Int32)).toInt ≤ 10 by omega)
                obtain ⟨σ500, eσ500⟩ : ∃ z : wt_St, z = wt_sf σ499 108 41 (0 : Int32) := ⟨_, rfl⟩
                rw [← eσ500]
                have fσ500 := wt_fr_sf eσ500
                have vσ500 := wt_ceq (wt_v_sf eσ500)
                have rσ500 := wt_RI_fin rσ499 eσ500 9 rfl rfl (show 0 ≤ ((0 : Int32)).toInt by omega) (show ((0 : Int32)).toInt ≤ 3 by omega)
                refine wt_T_it (fun s : Int32 × wt_St => wt_fr (fun i k => False) (fun i => i = 275 ∨ i = 124) σ500 s.2 ∧ 0 ≤ (s.1).toInt ∧ wt_RI s.2) (fun s : Int32 × wt_St => ((4 : Int32).toInt - s.1.toInt + 0).toNat) (fun KK501 z502 I503 hKK501 => ?_) _ _ ?_ ?_
                · skip
                  obtain ⟨l504, l505, l506⟩ := I503
                  unfold wp_md_tongue_B272
                  have k507 : (4 : Int32).toInt = 4 := by decide
                  have bb508 := wt_bd z502.1
                  refine wt_T_if (fun h509 => ?_) (fun h509 => ?_)
                  · skip
                    have c510 := wt_cle h509
                    refine wt_T_some ?_
                    have bb511 := wt_bd (wt_gf z502.2 108 28)
                    have g512 : 0 ≤ (wt_gf z502.2 108 28).toInt ∧ (wt_gf z502.2 108 28).toInt ≤ 60 := wt_R_gf l506 6 rfl
                    have tt513 : (wt_gf z502.2 108 28).toInt = (wt_gf σ500 108 28).toInt := congrArg Int32.toInt (l504.1 108 28 (fun z => z))
                    have bb514 := wt_bd (wt_gf σ500 108 28)
                    have g515 : 0 ≤ (wt_gf σ500 108 28).toInt ∧ (wt_gf σ500 108 28).toInt ≤ 60 := wt_R_gf rσ500 6 rfl
                    have tt516 : (wt_gf σ500 108 28).toInt = (wt_gf σ499 108 28).toInt := congrArg Int32.toInt (fσ500.1 108 28 (by (try dsimp only); omega))
                    have bb517 := wt_bd (wt_gf σ499 108 28)
                    have g518 : 0 ≤ (wt_gf σ499 108 28).toInt ∧ (wt_gf σ499 108 28).toInt ≤ 60 := wt_R_gf rσ499 6 rfl
                    have tt519 : (wt_gf σ499 108 28).toInt = (wt_gf σ498 108 28).toInt := congrArg Int32.toInt (fσ499.1 108 28 (by (try dsimp only); omega))
                    have bb520 := wt_bd (wt_gf σ498 108 28)
                    have g521 : 0 ≤ (wt_gf σ498 108 28).toInt ∧ (wt_gf σ498 108 28).toInt ≤ 60 := wt_R_gf rσ498 6 rfl
                    have tt522 : (wt_gf σ498 108 28).toInt = (wt_gf z482.2 108 28).toInt := congrArg Int32.toInt (fσ498.1 108 28 (by (try dsimp only); omega))
                    have bb523 := wt_bd (wt_gf z502.2 108 1)
                    have g524 : 0 ≤ (wt_gf z502.2 108 1).toInt ∧ (wt_gf z502.2 108 1).toInt ≤ 500 := wt_R_gf l506 0 rfl
                    have tt525 : (wt_gf z502.2 108 1).toInt = (wt_gf σ500 108 1).toInt := congrArg Int32.toInt (l504.1 108 1 (fun z => z))
                    have bb526 := wt_bd (wt_gf σ500 108 1)
                    have g527 : 0 ≤ (wt_gf σ500 108 1).toInt ∧ (wt_gf σ500 108 1).toInt ≤ 500 := wt_R_gf rσ500 0 rfl
                    have tt528 : (wt_gf σ500 108 1).toInt = (wt_gf σ499 108 1).toInt := congrArg Int32.toInt (fσ500.1 108 1 (by (try dsimp only); omega))
                    have bb529 := wt_bd (wt_gf σ499 108 1)
                    have g530 : 0 ≤ (wt_gf σ499 108 1).toInt ∧ (wt_gf σ499 108 1).toInt ≤ 500 := wt_R_gf rσ499 0 rfl
                    have tt531 : (wt_gf σ499 108 1).toInt = (wt_gf σ498 108 1).toInt := congrArg Int32.toInt (fσ499.1 108 1 (by (try dsimp only); omega))
                    have bb532 := wt_bd (wt_gf σ498 108 1)
                    have g533 : 0 ≤ (wt_gf σ498 108 1).toInt ∧ (wt_gf σ498 108 1).toInt ≤ 500 := wt_R_gf rσ498 0 rfl
                    have tt534 : (wt_gf σ498 108 1).toInt = (wt_gf z482.2 108 1).toInt := congrArg Int32.toInt (fσ498.1 108 1 (by (try dsimp only); omega))
                    have bb535 := wt_bd (wt_gf z482.2 108 1)
                    have g536 : 0 ≤ (wt_gf z482.2 108 1).toInt ∧ (wt_gf z482.2 108 1).toInt ≤ 500 := wt_R_gf l486 0 rfl
                    have tt537 : (wt_gf z482.2 108 1).toInt = (wt_gf σ475 108 1).toInt := congrArg Int32.toInt (l484.1 108 1 (fun z => z))
                    have bb538 := wt_bd (wt_gf σ475 108 1)
                    have g539 : 0 ≤ (wt_gf σ475 108 1).toInt ∧ (wt_gf σ475 108 1).toInt ≤ 500 := wt_R_gf rσ475 0 rfl
                    have tt540 : (wt_gf σ475 108 1).toInt = (wt_gf σ471 108 1).toInt := congrArg Int32.toInt (fσ475.1 108 1 (by (try dsimp only); omega))
                    have bb541 := wt_bd (wt_gf σ471 108 1)
                    have g542 : 0 ≤ (wt_gf σ471 108 1).toInt ∧ (wt_gf σ471 108 1).toInt ≤ 500 := wt_R_gf rσ471 0 rfl
                    have tt543 : (wt_gf σ471 108 1).toInt = (wt_gf σ464 108 1).toInt := congrArg Int32.toInt (fσ471.1 108 1 (by (try dsimp only); omega))
                    have bb544 := wt_bd (wt_gf σ464 108 1)
                    have g545 : 0 ≤ (wt_gf σ464 108 1).toInt ∧ (wt_gf σ464 108 1).toInt ≤ 500 := wt_R_gf rσ464 0 rfl
                    have tt546 : (wt_gf σ464 108 1).toInt = (wt_gf z41 108 1).toInt := congrArg Int32.toInt (fσ464.1 108 1 (by (try dsimp only); omega))
                    have bb547 := wt_bd (wt_gf z41 108 1)
                    have g548 : 0 ≤ (wt_gf z41 108 1).toInt ∧ (wt_gf z41 108 1).toInt ≤ 500 := wt_R_gf l44 0 rfl
                    have tt549 : (wt_gf z41 108 1).toInt = (wt_gf σ39 108 1).toInt := congrArg Int32.toInt (l43.1 108 1 (by (try dsimp only); omega))
                    have bb550 := wt_bd (wt_gf σ39 108 1)
                    have g551 : 0 ≤ (wt_gf σ39 108 1).toInt ∧ (wt_gf σ39 108 1).toInt ≤ 500 := wt_R_gf rσ39 0 rfl
                    have tt552 : (wt_gf σ39 108 1).toInt = (wt_gf σ38 108 1).toInt := congrArg Int32.toInt (fσ39.1 108 1 (by (try dsimp only); omega))
                    have bb553 := wt_bd (wt_gf σ38 108 1)
                    have g554 : 0 ≤ (wt_gf σ38 108 1).toInt ∧ (wt_gf σ38 108 1).toInt ≤ 500 := wt_R_gf rσ38 0 rfl
                    have tt555 : (wt_gf σ38 108 1).toInt = (wt_gf r27 108 1).toInt := congrArg Int32.toInt (fσ38.1 108 1 (by (try dsimp only); omega))
                    exact ⟨(wt_fr.tr (wt_fr.tr (wt_fr.tr (wt_fr.tr (wt_fr.tr (wt_fr.tr (wt_fr.tr (wt_fr.tr (wt_fr.tr (wt_fr.tr (wt_fr.tr (wt_fr.tr (wt_fr.tr (wt_fr.tr wt_fr.rf fσ2 (fun i k h => by (try dsimp only at h); exact Or.inl (by omega)) (fun i h => h.elim)) f19 (fun i k h => by (try dsimp only at h); exact Or.inl (by omega)) (fun i h => h.elim)) f29 (fun i k h => by (try dsimp only at h); rcases h with h | h | h | h | h | h; exact Or.inr (Or.inl (by omega)); exact Or.inr (Or.inr (Or.inl (by omega))); exact Or.inr (Or.inr (Or.inr (Or.inl (by omega)))); exact Or.inr (Or.inr (Or.inr (Or.inr (Or.inl (by omega))))); exact Or.inr (Or.inr (Or.inr (Or.inr (Or.inr (Or.inl (by omega)))))); exact Or.inr (Or.inr (Or.inr (Or.inr (Or.inr (Or.inr (Or.inl (by omega)))))))) (fun i h => h.elim)) fσ38 (fun i k h => by (try dsimp only at h); exact Or.inr (Or.inr (Or.inr (Or.inr (Or.inr (Or.inr (Or.inr (Or.inl (by omega))))))))) (fun i h => h.elim)) fσ39 (fun i k h => by (try dsimp only at h); exact Or.inr (Or.inr (Or.inr (Or.inr (Or.inr (Or.inr (Or.inr (Or.inr (Or.inl (by omega)))))))))) (fun i h => h.elim)) l43 (fun i k h => by (try dsimp only at h); rcases h with h | h | h | h | h; exact Or.inr (Or.inr (Or.inr (Or.inl (by omega)))); exact Or.inr (Or.inr (Or.inr (Or.inr (Or.inl (by omega))))); exact Or.inr (Or.inr (Or.inr (Or.inr (Or.inr (Or.inl (by omega)))))); exact Or.inr (Or.inr (Or.inr (Or.inr (Or.inr (Or.inr (Or.inr (Or.inr (Or.inl (by omega))))))))); exact Or.inr (Or.inr (Or.inr (Or.inr (Or.inr (Or.inr (Or.inr (Or.inl (by omega))))))))) (fun i h => by (try dsimp only at h); rcases h with h | h | h | h; exact Or.inr (Or.inr (Or.inr (Or.inr (Or.inr (Or.inr (Or.inl (by omega))))))); exact Or.inr (Or.inr (Or.inr (Or.inr (Or.inr (Or.inr (Or.inr (Or.inl (by omega)))))))); exact Or.inr (Or.inr (Or.inr (Or.inr (Or.inr (Or.inr (Or.inr (Or.inr (Or.inl (by omega))))))))); exact Or.inr (Or.inr (Or.inr (Or.inr (Or.inr (Or.inr (Or.inr (Or.inr (Or.inr ((by omega)))))))))))) fσ464 (fun i k h => by (try dsimp only at h); exact Or.inr (Or.inr (Or.inr (Or.inr (Or.inr (Or.inr (Or.inr (Or.inr (Or.inr (Or.inl (by omega))))))))))) (fun i h => h.elim)) fσ471 (fun i k h => by (try dsimp only at h); exact Or.inr (Or.inr (Or.inr (Or.inr (Or.inr (Or.inr (Or.inr (Or.inr (Or.inr (Or.inr (Or.inl (by omega)))))))))))) (fun i h => h.elim)) fσ475 (fun i k h => by (try dsimp only at h); exact Or.inr (Or.inr (Or.inr (Or.inr (Or.inr (Or.inr (Or.inr (Or.inr (Or.inr (Or.inr (Or.inr (Or.inl (by omega))))))))))))) (fun i h => h.elim)) l484 (fun i k h => h.elim) (fun i h => by (try dsimp only at h); rcases h with h | h | h | h; exact Or.inr (Or.inr (Or.inl (by omega))); exact Or.inr (Or.inr (Or.inr (Or.inl (by omega)))); exact Or.inr (Or.inr (Or.inr (Or.inr (Or.inl (by omega))))); exact Or.inr (Or.inr (Or.inr (Or.inr (Or.inr (Or.inl (by omega)))))))) fσ498 (fun i k h => by (try dsimp only at h); exact Or.inr (Or.inr (Or.inr (Or.inr (Or.inr (Or.inr (Or.inr (Or.inr (Or.inr (Or.inr (Or.inr (Or.inr (Or.inl (by omega)))))))))))))) (fun i h => h.elim)) fσ499 (fun i k h => by (try dsimp only at h); exact Or.inr (Or.inr (Or.inr (Or.inr (Or.inr (Or.inr (Or.inr (Or.inr (Or.inr (Or.inr (Or.inr (Or.inr (Or.inr (Or.inl (by omega))))))))))))))) (fun i h => h.elim)) fσ500 (fun i k h => by (try dsimp only at h); exact Or.inr (Or.inr (Or.inr (Or.inr (Or.inr (Or.inr (Or.inr (Or.inr (Or.inr (Or.inr (Or.inr (Or.inr (Or.inr (Or.inr ((by omega)))))))))))))))) (fun i h => h.elim)) l504 (fun i k h => h.elim) (fun i h => by (try dsimp only at h); rcases h with h | h; exact Or.inl (by omega); exact Or.inr (Or.inl (by omega)))), l506, (show ((x1.toInt < 0 ∨ (wt_gf σ 108 1).toInt < x1.toInt → (wt_gf z502.2 108 1).toInt = (wt_gf σ 108 1).toInt) ∧ (0 ≤ x1.toInt ∧ x1.toInt ≤ (wt_gf σ 108 1).toInt → (wt_gf z502.2 108 1).toInt = 0)) from by omega)⟩
                  · skip
                    have c556 := wt_ncle h509
                    refine wt_T_gd (wt_ix (by omega) (by omega)) ?_
                    have bb557 := wt_tn z502.1
                    have bb558 := wt_bd (wt_ga z502.2 275 (Int32.toNatClampNeg z502.1))
                    have g559 : -1 ≤ (wt_ga z502.2 275 (Int32.toNatClampNeg z502.1)).toInt ∧ (wt_ga z502.2 275 (Int32.toNatClampNeg z502.1)).toInt ≤ 7 := wt_R_ga l506 12 rfl 275 (by decide) (by decide) (Int32.toNatClampNeg z502.1)
                    refine wt_T_if (fun h560 => ?_) (fun h560 => ?_)
                    · skip
                      have c561 := wt_ceq h560
                      rw [wt_lm1] at c561
                      unfold wp_md_tongue_B292
                      refine hKK501 _ ⟨(wt_fr.tr wt_fr.rf l504 (fun i k h => h.elim) (fun i h => by (try dsimp only at h); rcases h with h | h; exact Or.inl (by omega); exact Or.inr ((by omega)))), (wt_nn (B := (4 : Int32)) (by omega) (by omega)), l506⟩ ?_
                      show ((4 : Int32).toInt - (z502.1 + (1 : Int32)).toInt + 0).toNat < ((4 : Int32).toInt - z502.1.toInt + 0).toNat
                      exact wt_mu (by omega) (by omega)
                    · skip
                      have c562 := wt_nceq h560
                      rw [wt_lm1] at c562
                      refine wt_T_bi (wq_md_takesApart n hn z502.1 z502.2 l506 (by omega) (by omega)) (fun r563 h564 => ?_)
                      obtain ⟨f565, ri566⟩ := h564
                      unfold wp_md_tongue_B292
                      refine hKK501 _ ⟨(wt_fr.tr (wt_fr.tr wt_fr.rf l504 (fun i k h => h.elim) (fun i h => by (try dsimp only at h); rcases h with h | h; exact Or.inl (by omega); exact Or.inr ((by omega)))) f565 (fun i k h => h.elim) (fun i h => by (try dsimp only at h); rcases h with h | h; exact Or.inl (by omega); exact Or.inr ((by omega)))), (wt_nn (B := (4 : Int32)) (by omega) (by omega)), ri566⟩ ?_
                      show ((4 : Int32).toInt - (z502.1 + (1 : Int32)).toInt + 0).toNat < ((4 : Int32).toInt - z502.1.toInt + 0).toNat
                      exact wt_mu (by omega) (by omega)
                · skip
                  have k567 : (4 : Int32).toInt = 4 := by decide
                  exact ⟨wt_fr.rf, (show 0 ≤ ((0 : Int32)).toInt by omega), rσ500⟩
                · skip
                  have k568 : (4 : Int32).toInt = 4 := by decide
                  show ((4 : Int32).toInt - (0 : Int32).toInt + 0).toNat < n
                  omega
              · skip
                have c569 := wt_ncle h496
                refine wt_T_gd (wt_ix (by omega) (by omega)) ?_
                refine wt_T_gd (wt_ix (by omega) (by omega)) ?_
                refine wt_T_gd (wt_ix (by omega) (by omega)) ?_
                refine wt_T_gd (wt_ix (by omega) (by omega)) ?_
                refine wt_T_gd (wt_ix (by omega) (by omega)) ?_
                refine wt_T_gd (wt_ix (by omega) (by omega)) ?_
                obtain ⟨σ570, eσ570⟩ : ∃ z : wt_St, z = wt_sa z482.2 126 (Int32.toNatClampNeg z482.1) (wt_ga z482.2 125 (Int32.toNatClampNeg z482.1)) := ⟨_, rfl⟩
                rw [← eσ570]
                have fσ570 := wt_fr_sa eσ570
                have vσ570 := wt_ceq (wt_v_sa eσ570)
                have bb571 := wt_tn z482.1
                have bb572 := wt_bd (wt_ga z482.2 125 (Int32.toNatClampNeg z482.1))
                have g573 : 0 ≤ (wt_ga z482.2 125 (Int32.toNatClampNeg z482.1)).toInt ∧ (wt_ga z482.2 125 (Int32.toNatClampNeg z482.1)).toInt ≤ 9 := wt_R_ga l486 5 rfl 125 (by decide) (by decide) (Int32.toNatClampNeg z482.1)
                have tt574 : (wt_ga z482.2 125 (Int32.toNatClampNeg z482.1)).toInt = (wt_ga σ475 125 (Int32.toNatClampNeg z482.1)).toInt := congrArg Int32.toInt (l484.2 125 (by (try dsimp only); omega) (Int32.toNatClampNeg z482.1))
                have bb575 := wt_bd (wt_ga σ475 125 (Int32.toNatClampNeg z482.1))
                have g576 : 0 ≤ (wt_ga σ475 125 (Int32.toNatClampNeg z482.1)).toInt ∧ (wt_ga σ475 125 (Int32.toNatClampNeg z482.1)).toInt ≤ 9 := wt_R_ga rσ475 5 rfl 125 (by decide) (by decide) (Int32.toNatClampNeg z482.1)
                have tt577 : (wt_ga σ475 125 (Int32.toNatClampNeg z482.1)).toInt = (wt_ga σ471 125 (Int32.toNatClampNeg z482.1)).toInt := congrArg Int32.toInt (fσ475.2 125 (fun z => z) (Int32.toNatClampNeg z482.1))
                have bb578 := wt_bd (wt_ga σ471 125 (Int32.toNatClampNeg z482.1))
                have g579 : 0 ≤ (wt_ga σ471 125 (Int32.toNatClampNeg z482.1)).toInt ∧ (wt_ga σ471 125 (Int32.toNatClampNeg z482.1)).toInt ≤ 9 := wt_R_ga rσ471 5 rfl 125 (by decide) (by decide) (Int32.toNatClampNeg z482.1)
                have tt580 : (wt_ga σ471 125 (Int32.toNatClampNeg z482.1)).toInt = (wt_ga σ464 125 (Int32.toNatClampNeg z482.1)).toInt := congrArg Int32.toInt (fσ471.2 125 (fun z => z) (Int32.toNatClampNeg z482.1))
                have bb581 := wt_bd (wt_ga σ464 125 (Int32.toNatClampNeg z482.1))
                have g582 : 0 ≤ (wt_ga σ464 125 (Int32.toNatClampNeg z482.1)).toInt ∧ (wt_ga σ464 125 (Int32.toNatClampNeg z482.1)).toInt ≤ 9 := wt_R_ga rσ464 5 rfl 125 (by decide) (by decide) (Int32.toNatClampNeg z482.1)
                have tt583 : (wt_ga σ464 125 (Int32.toNatClampNeg z482.1)).toInt = (wt_ga z41 125 (Int32.toNatClampNeg z482.1)).toInt := congrArg Int32.toInt (fσ464.2 125 (fun z => z) (Int32.toNatClampNeg z482.1))
                have bb584 := wt_bd (wt_ga z41 125 (Int32.toNatClampNeg z482.1))
                have g585 : 0 ≤ (wt_ga z41 125 (Int32.toNatClampNeg z482.1)).toInt ∧ (wt_ga z41 125 (Int32.toNatClampNeg z482.1)).toInt ≤ 9 := wt_R_ga l44 5 rfl 125 (by decide) (by decide) (Int32.toNatClampNeg z482.1)
                have rσ570 := wt_RI_in l486 eσ570 5 rfl (by decide) (by decide) (show 0 ≤ (wt_ga z482.2 125 (Int32.toNatClampNeg z482.1)).toInt by omega) (show (wt_ga z482.2 125 (Int32.toNatClampNeg z482.1)).toInt ≤ 9 by omega)
                obtain ⟨σ586, eσ586⟩ : ∃ z : wt_St, z = wt_sa σ570 128 (Int32.toNatClampNeg z482.1) (wt_ga σ570 127 (Int32.toNatClampNeg z482.1)) := ⟨_, rfl⟩
                rw [← eσ586]
                have fσ586 := wt_fr_sa eσ586
                have vσ586 := wt_ceq (wt_v_sa eσ586)
                have bb587 := wt_bd (wt_ga σ570 127 (Int32.toNatClampNeg z482.1))
                have g588 : 0 ≤ (wt_ga σ570 127 (Int32.toNatClampNeg z482.1)).toInt ∧ (wt_ga σ570 127 (Int32.toNatClampNeg z482.1)).toInt ≤ 3 := wt_R_ga rσ570 6 rfl 127 (by decide) (by decide) (Int32.toNatClampNeg z482.1)
                have tt589 : (wt_ga σ570 127 (Int32.toNatClampNeg z482.1)).toInt = (wt_ga z482.2 127 (Int32.toNatClampNeg z482.1)).toInt := congrArg Int32.toInt (fσ570.2 127 (by (try dsimp only); omega) (Int32.toNatClampNeg z482.1))
                have bb590 := wt_bd (wt_ga z482.2 127 (Int32.toNatClampNeg z482.1))
                have g591 : 0 ≤ (wt_ga z482.2 127 (Int32.toNatClampNeg z482.1)).toInt ∧ (wt_ga z482.2 127 (Int32.toNatClampNeg z482.1)).toInt ≤ 3 := wt_R_ga l486 6 rfl 127 (by decide) (by decide) (Int32.toNatClampNeg z482.1)
                have tt592 : (wt_ga z482.2 127 (Int32.toNatClampNeg z482.1)).toInt = (wt_ga σ475 127 (Int32.toNatClampNeg z482.1)).toInt := congrArg Int32.toInt (l484.2 127 (by (try dsimp only); omega) (Int32.toNatClampNeg z482.1))
                have bb593 := wt_bd (wt_ga σ475 127 (Int32.toNatClampNeg z482.1))
                have g594 : 0 ≤ (wt_ga σ475 127 (Int32.toNatClampNeg z482.1)).toInt ∧ (wt_ga σ475 127 (Int32.toNatClampNeg z482.1)).toInt ≤ 3 := wt_R_ga rσ475 6 rfl 127 (by decide) (by decide) (Int32.toNatClampNeg z482.1)
                have tt595 : (wt_ga σ475 127 (Int32.toNatClampNeg z482.1)).toInt = (wt_ga σ471 127 (Int32.toNatClampNeg z482.1)).toInt := congrArg Int32.toInt (fσ475.2 127 (fun z => z) (Int32.toNatClampNeg z482.1))
                have bb596 := wt_bd (wt_ga σ471 127 (Int32.toNatClampNeg z482.1))
                have g597 : 0 ≤ (wt_ga σ471 127 (Int32.toNatClampNeg z482.1)).toInt ∧ (wt_ga σ471 127 (Int32.toNatClampNeg z482.1)).toInt ≤ 3 := wt_R_ga rσ471 6 rfl 127 (by decide) (by decide) (Int32.toNatClampNeg z482.1)
                have tt598 : (wt_ga σ471 127 (Int32.toNatClampNeg z482.1)).toInt = (wt_ga σ464 127 (Int32.toNatClampNeg z482.1)).toInt := congrArg Int32.toInt (fσ471.2 127 (fun z => z) (Int32.toNatClampNeg z482.1))
                have bb599 := wt_bd (wt_ga σ464 127 (Int32.toNatClampNeg z482.1))
                have g600 : 0 ≤ (wt_ga σ464 127 (Int32.toNatClampNeg z482.1)).toInt ∧ (wt_ga σ464 127 (Int32.toNatClampNeg z482.1)).toInt ≤ 3 := wt_R_ga rσ464 6 rfl 127 (by decide) (by decide) (Int32.toNatClampNeg z482.1)
                have tt601 : (wt_ga σ464 127 (Int32.toNatClampNeg z482.1)).toInt = (wt_ga z41 127 (Int32.toNatClampNeg z482.1)).toInt := congrArg Int32.toInt (fσ464.2 127 (fun z => z) (Int32.toNatClampNeg z482.1))
                have bb602 := wt_bd (wt_ga z41 127 (Int32.toNatClampNeg z482.1))
                have g603 : 0 ≤ (wt_ga z41 127 (Int32.toNatClampNeg z482.1)).toInt ∧ (wt_ga z41 127 (Int32.toNatClampNeg z482.1)).toInt ≤ 3 := wt_R_ga l44 6 rfl 127 (by decide) (by decide) (Int32.toNatClampNeg z482.1)
                have rσ586 := wt_RI_in rσ570 eσ586 6 rfl (by decide) (by decide) (show 0 ≤ (wt_ga σ570 127 (Int32.toNatClampNeg z482.1)).toInt by omega) (show (wt_ga σ570 127 (Int32.toNatClampNeg z482.1)).toInt ≤ 3 by omega)
                obtain ⟨σ604, eσ604⟩ : ∃ z : wt_St, z = wt_sa σ586 130 (Int32.toNatClampNeg z482.1) (wt_ga σ586 129 (Int32.toNatClampNeg z482.1)) := ⟨_, rfl⟩
                rw [← eσ604]
                have fσ604 := wt_fr_sa eσ604
                have vσ604 := wt_ceq (wt_v_sa eσ604)
                have bb605 := wt_bd (wt_ga σ586 129 (Int32.toNatClampNeg z482.1))
                have tt606 : (wt_ga σ586 129 (Int32.toNatClampNeg z482.1)).toInt = (wt_ga σ570 129 (Int32.toNatClampNeg z482.1)).toInt := congrArg Int32.toInt (fσ586.2 129 (by (try dsimp only); omega) (Int32.toNatClampNeg z482.1))
                have bb607 := wt_bd (wt_ga σ570 129 (Int32.toNatClampNeg z482.1))
                have tt608 : (wt_ga σ570 129 (Int32.toNatClampNeg z482.1)).toInt = (wt_ga z482.2 129 (Int32.toNatClampNeg z482.1)).toInt := congrArg Int32.toInt (fσ570.2 129 (by (try dsimp only); omega) (Int32.toNatClampNeg z482.1))
                have bb609 := wt_bd (wt_ga z482.2 129 (Int32.toNatClampNeg z482.1))
                have tt610 : (wt_ga z482.2 129 (Int32.toNatClampNeg z482.1)).toInt = (wt_ga σ475 129 (Int32.toNatClampNeg z482.1)).toInt := congrArg Int32.toInt (l484.2 129 (by (try dsimp only); omega) (Int32.toNatClampNeg z482.1))
                have bb611 := wt_bd (wt_ga σ475 129 (Int32.toNatClampNeg z482.1))
                have tt612 : (wt_ga σ475 129 (Int32.toNatClampNeg z482.1)).toInt = (wt_ga σ471 129 (Int32.toNatClampNeg z482.1)).toInt := congrArg Int32.toInt (fσ475.2 129 (fun z => z) (Int32.toNatClampNeg z482.1))
                have bb613 := wt_bd (wt_ga σ471 129 (Int32.toNatClampNeg z482.1))
                have tt614 : (wt_ga σ471 129 (Int32.toNatClampNeg z482.1)).toInt = (wt_ga σ464 129 (Int32.toNatClampNeg z482.1)).toInt := congrArg Int32.toInt (fσ471.2 129 (fun z => z) (Int32.toNatClampNeg z482.1))
                have bb615 := wt_bd (wt_ga σ464 129 (Int32.toNatClampNeg z482.1))
                have tt616 : (wt_ga σ464 129 (Int32.toNatClampNeg z482.1)).toInt = (wt_ga z41 129 (Int32.toNatClampNeg z482.1)).toInt := congrArg Int32.toInt (fσ464.2 129 (fun z => z) (Int32.toNatClampNeg z482.1))
                have bb617 := wt_bd (wt_ga z41 129 (Int32.toNatClampNeg z482.1))
                have rσ604 := wt_RI_no rσ586 eσ604 130 131 (by decide) (by decide) (by decide)
                refine wt_T_it (fun s : Int32 × wt_St => wt_fr (fun i k => False) (fun i => (193 ≤ i ∧ i < 253)) σ604 s.2 ∧ 0 ≤ (s.1).toInt ∧ wt_RI s.2) (fun s : Int32 × wt_St => ((9 : Int32).toInt - s.1.toInt + 0).toNat) (fun KK618 z619 I620 hKK618 => ?_) _ _ ?_ ?_
                · skip
                  obtain ⟨l621, l622, l623⟩ := I620
                  unfold wp_md_tongue_B221
                  have k624 : (9 : Int32).toInt = 9 := by decide
                  have bb625 := wt_bd z619.1
                  refine wt_T_if (fun h626 => ?_) (fun h626 => ?_)
                  · skip
                    have c627 := wt_cle h626
                    have bb628 := wt_bd (wt_gf z619.2 108 28)
                    have g629 : 0 ≤ (wt_gf z619.2 108 28).toInt ∧ (wt_gf z619.2 108 28).toInt ≤ 60 := wt_R_gf l623 6 rfl
                    have tt630 : (wt_gf z619.2 108 28).toInt = (wt_gf σ604 108 28).toInt := congrArg Int32.toInt (l621.1 108 28 (fun z => z))
                    have bb631 := wt_bd (wt_gf σ604 108 28)
                    have g632 : 0 ≤ (wt_gf σ604 108 28).toInt ∧ (wt_gf σ604 108 28).toInt ≤ 60 := wt_R_gf rσ604 6 rfl
                    have tt633 : (wt_gf σ604 108 28).toInt = (wt_gf σ586 108 28).toInt := congrArg Int32.toInt (fσ604.1 108 28 (fun z => z))
                    have bb634 := wt_bd (wt_gf σ586 108 28)
                    have g635 : 0 ≤ (wt_gf σ586 108 28).toInt ∧ (wt_gf σ586 108 28).toInt ≤ 60 := wt_R_gf rσ586 6 rfl
                    have tt636 : (wt_gf σ586 108 28).toInt = (wt_gf σ570 108 28).toInt := congrArg Int32.toInt (fσ586.1 108 28 (fun z => z))
                    have bb637 := wt_bd (wt_gf σ570 108 28)
                    have g638 : 0 ≤ (wt_gf σ570 108 28).toInt ∧ (wt_gf σ570 108 28).toInt ≤ 60 := wt_R_gf rσ570 6 rfl
                    have tt639 : (wt_gf σ570 108 28).toInt = (wt_gf z482.2 108 28).toInt := congrArg Int32.toInt (fσ570.1 108 28 (fun z => z))
                    refine hKK481 _ ⟨(wt_fr.tr (wt_fr.tr (wt_fr.tr (wt_fr.tr (wt_fr.tr wt_fr.rf l484 (fun i k h => h.elim) (fun i h => by (try dsimp only at h); rcases h with h | h | h | h; exact Or.inl (by omega); exact Or.inr (Or.inl (by omega)); exact Or.inr (Or.inr (Or.inl (by omega))); exact Or.inr (Or.inr (Or.inr ((by omega)))))) fσ570 (fun i k h => h.elim) (fun i h => by (try dsimp only at h); exact Or.inl (by omega))) fσ586 (fun i k h => h.elim) (fun i h => by (try dsimp only at h); exact Or.inr (Or.inl (by omega)))) fσ604 (fun i k h => h.elim) (fun i h => by (try dsimp only at h); exact Or.inr (Or.inr (Or.inl (by omega))))) l621 (fun i k h => h.elim) (fun i h => by (try dsimp only at h); exact Or.inr (Or.inr (Or.inr ((by omega)))))), (wt_nn (B := wt_gf z482.2 108 28) (by omega) (by omega)), l623⟩ ?_
                    show ((wt_gf z619.2 108 28).toInt - (z482.1 + (1 : Int32)).toInt + 0).toNat < ((wt_gf z482.2 108 28).toInt - z482.1.toInt + 0).toNat
                    exact wt_mu (by omega) (by omega)
                  · skip
                    have c640 := wt_ncle h626
                    refine wt_T_gd (wt_ix (by omega) (by omega)) ?_
                    refine wt_T_gd (wt_ix (by omega) (by omega)) ?_
                    refine wt_T_gd (wt_ix (by omega) (by omega)) ?_
                    refine wt_T_gd (wt_ix (by omega) (by omega)) ?_
                    obtain ⟨σ641, eσ641⟩ : ∃ z : wt_St, z = wt_sa z619.2 (193 + (Int32.toNatClampNeg z482.1)) (Int32.toNatClampNeg z619.1) (wt_ga z619.2 (132 + (Int32.toNatClampNeg z482.1)) (Int32.toNatClampNeg z619.1)) := ⟨_, rfl⟩
                    rw [← eσ641]
                    have fσ641 := wt_fr_sa eσ641
                    have vσ641 := wt_ceq (wt_v_sa eσ641)
                    have bb642 := wt_tn z619.1
                    have bb643 := wt_bd (wt_ga z619.2 (132 + (Int32.toNatClampNeg z482.1)) (Int32.toNatClampNeg z619.1))
                    have g644 : 0 ≤ (wt_ga z619.2 (132 + (Int32.toNatClampNeg z482.1)) (Int32.toNatClampNeg z619.1)).toInt ∧ (wt_ga z619.2 (132 + (Int32.toNatClampNeg z482.1)) (Int32.toNatClampNeg z619.1)).toInt ≤ 25 := wt_R_ga l623 7 rfl (132 + (Int32.toNatClampNeg z482.1)) (show 132 ≤ 132 + (Int32.toNatClampNeg z482.1) by omega) (show 132 + (Int32.toNatClampNeg z482.1) < 192 by omega) (Int32.toNatClampNeg z619.1)
                    have tt645 : (wt_ga z619.2 (132 + (Int32.toNatClampNeg z482.1)) (Int32.toNatClampNeg z619.1)).toInt = (wt_ga σ604 (132 + (Int32.toNatClampNeg z482.1)) (Int32.toNatClampNeg z619.1)).toInt := congrArg Int32.toInt (l621.2 (132 + (Int32.toNatClampNeg z482.1)) (by (try dsimp only); omega) (Int32.toNatClampNeg z619.1))
                    have bb646 := wt_bd (wt_ga σ604 (132 + (Int32.toNatClampNeg z482.1)) (Int32.toNatClampNeg z619.1))
                    have g647 : 0 ≤ (wt_ga σ604 (132 + (Int32.toNatClampNeg z482.1)) (Int32.toNatClampNeg z619.1)).toInt ∧ (wt_ga σ604 (132 + (Int32.toNatClampNeg z482.1)) (Int32.toNatClampNeg z619.1)).toInt ≤ 25 := wt_R_ga rσ604 7 rfl (132 + (Int32.toNatClampNeg z482.1)) (show 132 ≤ 132 + (Int32.toNatClampNeg z482.1) by omega) (show 132 + (Int32.toNatClampNeg z482.1) < 192 by omega) (Int32.toNatClampNeg z619.1)
                    have tt648 : (wt_ga σ604 (132 + (Int32.toNatClampNeg z482.1)) (Int32.toNatClampNeg z619.1)).toInt = (wt_ga σ586 (132 + (Int32.toNatClampNeg z482.1)) (Int32.toNatClampNeg z619.1)).toInt := congrArg Int32.toInt (fσ604.2 (132 + (Int32.toNatClampNeg z482.1)) (by (try dsimp only); omega) (Int32.toNatClampNeg z619.1))
                    have bb649 := wt_bd (wt_ga σ586 (132 + (Int32.toNatClampNeg z482.1)) (Int32.toNatClampNeg z619.1))
                    have g650 : 0 ≤ (wt_ga σ586 (132 + (Int32.toNatClampNeg z482.1)) (Int32.toNatClampNeg z619.1)).toInt ∧ (wt_ga σ586 (132 + (Int32.toNatClampNeg z482.1)) (Int32.toNatClampNeg z619.1)).toInt ≤ 25 := wt_R_ga rσ586 7 rfl (132 + (Int32.toNatClampNeg z482.1)) (show 132 ≤ 132 + (Int32.toNatClampNeg z482.1) by omega) (show 132 + (Int32.toNatClampNeg z482.1) < 192 by omega) (Int32.toNatClampNeg z619.1)
                    have tt651 : (wt_ga σ586 (132 + (Int32.toNatClampNeg z482.1)) (Int32.toNatClampNeg z619.1)).toInt = (wt_ga σ570 (132 + (Int32.toNatClampNeg z482.1)) (Int32.toNatClampNeg z619.1)).toInt := congrArg Int32.toInt (fσ586.2 (132 + (Int32.toNatClampNeg z482.1)) (by (try dsimp only); omega) (Int32.toNatClampNeg z619.1))
                    have bb652 := wt_bd (wt_ga σ570 (132 + (Int32.toNatClampNeg z482.1)) (Int32.toNatClampNeg z619.1))
                    have g653 : 0 ≤ (wt_ga σ570 (132 + (Int32.toNatClampNeg z482.1)) (Int32.toNatClampNeg z619.1)).toInt ∧ (wt_ga σ570 (132 + (Int32.toNatClampNeg z482.1)) (Int32.toNatClampNeg z619.1)).toInt ≤ 25 := wt_R_ga rσ570 7 rfl (132 + (Int32.toNatClampNeg z482.1)) (show 132 ≤ 132 + (Int32.toNatClampNeg z482.1) by omega) (show 132 + (Int32.toNatClampNeg z482.1) < 192 by omega) (Int32.toNatClampNeg z619.1)
                    have tt654 : (wt_ga σ570 (132 + (Int32.toNatClampNeg z482.1)) (Int32.toNatClampNeg z619.1)).toInt = (wt_ga z482.2 (132 + (Int32.toNatClampNeg z482.1)) (Int32.toNatClampNeg z619.1)).toInt := congrArg Int32.toInt (fσ570.2 (132 + (Int32.toNatClampNeg z482.1)) (by (try dsimp only); omega) (Int32.toNatClampNeg z619.1))
                    have bb655 := wt_bd (wt_ga z482.2 (132 + (Int32.toNatClampNeg z482.1)) (Int32.toNatClampNeg z619.1))
                    have g656 : 0 ≤ (wt_ga z482.2 (132 + (Int32.toNatClampNeg z482.1)) (Int32.toNatClampNeg z619.1)).toInt ∧ (wt_ga z482.2 (132 + (Int32.toNatClampNeg z482.1)) (Int32.toNatClampNeg z619.1)).toInt ≤ 25 := wt_R_ga l486 7 rfl (132 + (Int32.toNatClampNeg z482.1)) (show 132 ≤ 132 + (Int32.toNatClampNeg z482.1) by omega) (show 132 + (Int32.toNatClampNeg z482.1) < 192 by omega) (Int32.toNatClampNeg z619.1)
                    have tt657 : (wt_ga z482.2 (132 + (Int32.toNatClampNeg z482.1)) (Int32.toNatClampNeg z619.1)).toInt = (wt_ga σ475 (132 + (Int32.toNatClampNeg z482.1)) (Int32.toNatClampNeg z619.1)).toInt := congrArg Int32.toInt (l484.2 (132 + (Int32.toNatClampNeg z482.1)) (by (try dsimp only); omega) (Int32.toNatClampNeg z619.1))
                    have bb658 := wt_bd (wt_ga σ475 (132 + (Int32.toNatClampNeg z482.1)) (Int32.toNatClampNeg z619.1))
                    have g659 : 0 ≤ (wt_ga σ475 (132 + (Int32.toNatClampNeg z482.1)) (Int32.toNatClampNeg z619.1)).toInt ∧ (wt_ga σ475 (132 + (Int32.toNatClampNeg z482.1)) (Int32.toNatClampNeg z619.1)).toInt ≤ 25 := wt_R_ga rσ475 7 rfl (132 + (Int32.toNatClampNeg z482.1)) (show 132 ≤ 132 + (Int32.toNatClampNeg z482.1) by omega) (show 132 + (Int32.toNatClampNeg z482.1) < 192 by omega) (Int32.toNatClampNeg z619.1)
                    have tt660 : (wt_ga σ475 (132 + (Int32.toNatClampNeg z482.1)) (Int32.toNatClampNeg z619.1)).toInt = (wt_ga σ471 (132 + (Int32.toNatClampNeg z482.1)) (Int32.toNatClampNeg z619.1)).toInt := congrArg Int32.toInt (fσ475.2 (132 + (Int32.toNatClampNeg z482.1)) (fun z => z) (Int32.toNatClampNeg z619.1))
                    have bb661 := wt_bd (wt_ga σ471 (132 + (Int32.toNatClampNeg z482.1)) (Int32.toNatClampNeg z619.1))
                    have g662 : 0 ≤ (wt_ga σ471 (132 + (Int32.toNatClampNeg z482.1)) (Int32.toNatClampNeg z619.1)).toInt ∧ (wt_ga σ471 (132 + (Int32.toNatClampNeg z482.1)) (Int32.toNatClampNeg z619.1)).toInt ≤ 25 := wt_R_ga rσ471 7 rfl (132 + (Int32.toNatClampNeg z482.1)) (show 132 ≤ 132 + (Int32.toNatClampNeg z482.1) by omega) (show 132 + (Int32.toNatClampNeg z482.1) < 192 by omega) (Int32.toNatClampNeg z619.1)
                    have tt663 : (wt_ga σ471 (132 + (Int32.toNatClampNeg z482.1)) (Int32.toNatClampNeg z619.1)).toInt = (wt_ga σ464 (132 + (Int32.toNatClampNeg z482.1)) (Int32.toNatClampNeg z619.1)).toInt := congrArg Int32.toInt (fσ471.2 (132 + (Int32.toNatClampNeg z482.1)) (fun z => z) (Int32.toNatClampNeg z619.1))
                    have bb664 := wt_bd (wt_ga σ464 (132 + (Int32.toNatClampNeg z482.1)) (Int32.toNatClampNeg z619.1))
                    have g665 : 0 ≤ (wt_ga σ464 (132 + (Int32.toNatClampNeg z482.1)) (Int32.toNatClampNeg z619.1)).toInt ∧ (wt_ga σ464 (132 + (Int32.toNatClampNeg z482.1)) (Int32.toNatClampNeg z619.1)).toInt ≤ 25 := wt_R_ga rσ464 7 rfl (132 + (Int32.toNatClampNeg z482.1)) (show 132 ≤ 132 + (Int32.toNatClampNeg z482.1) by omega) (show 132 + (Int32.toNatClampNeg z482.1) < 192 by omega) (Int32.toNatClampNeg z619.1)
                    have tt666 : (wt_ga σ464 (132 + (Int32.toNatClampNeg z482.1)) (Int32.toNatClampNeg z619.1)).toInt = (wt_ga z41 (132 + (Int32.toNatClampNeg z482.1)) (Int32.toNatClampNeg z619.1)).toInt := congrArg Int32.toInt (fσ464.2 (132 + (Int32.toNatClampNeg z482.1)) (fun z => z) (Int32.toNatClampNeg z619.1))
                    have bb667 := wt_bd (wt_ga z41 (132 + (Int32.toNatClampNeg z482.1)) (Int32.toNatClampNeg z619.1))
                    have g668 : 0 ≤ (wt_ga z41 (132 + (Int32.toNatClampNeg z482.1)) (Int32.toNatClampNeg z619.1)).toInt ∧ (wt_ga z41 (132 + (Int32.toNatClampNeg z482.1)) (Int32.toNatClampNeg z619.1)).toInt ≤ 25 := wt_R_ga l44 7 rfl (132 + (Int32.toNatClampNeg z482.1)) (show 132 ≤ 132 + (Int32.toNatClampNeg z482.1) by omega) (show 132 + (Int32.toNatClampNeg z482.1) < 192 by omega) (Int32.toNatClampNeg z619.1)
                    have rσ641 := wt_RI_in l623 eσ641 8 rfl (show 193 ≤ 193 + (Int32.toNatClampNeg z482.1) by omega) (show 193 + (Int32.toNatClampNeg z482.1) < 253 by omega) (show 0 ≤ (wt_ga z619.2 (132 + (Int32.toNatClampNeg z482.1)) (Int32.toNatClampNeg z619.1)).toInt by omega) (show (wt_ga z619.2 (132 + (Int32.toNatClampNeg z482.1)) (Int32.toNatClampNeg z619.1)).toInt ≤ 25 by omega)
                    refine hKK618 _ ⟨(wt_fr.tr (wt_fr.tr wt_fr.rf l621 (fun i k h => h.elim) (fun i h => by (try dsimp only at h); exact (by omega))) fσ641 (fun i k h => h.elim) (fun i h => by (try dsimp only at h); exact (by omega))), (wt_nn (B := (9 : Int32)) (by omega) (by omega)), rσ641⟩ ?_
                    show ((9 : Int32).toInt - (z619.1 + (1 : Int32)).toInt + 0).toNat < ((9 : Int32).toInt - z619.1.toInt + 0).toNat
                    exact wt_mu (by omega) (by omega)
                · skip
                  have k669 : (9 : Int32).toInt = 9 := by decide
                  exact ⟨wt_fr.rf, (show 0 ≤ ((0 : Int32)).toInt by omega), rσ604⟩
                · skip
                  have k670 : (9 : Int32).toInt = 9 := by decide
                  show ((9 : Int32).toInt - (0 : Int32).toInt + 0).toNat < n
                  omega
            · skip
              have bb671 := wt_bd (wt_gf σ475 108 28)
              have g672 : 0 ≤ (wt_gf σ475 108 28).toInt ∧ (wt_gf σ475 108 28).toInt ≤ 60 := wt_R_gf rσ475 6 rfl
              have tt673 : (wt_gf σ475 108 28).toInt = (wt_gf σ471 108 28).toInt := congrArg Int32.toInt (fσ475.1 108 28 (by (try dsimp only); omega))
              have bb674 := wt_bd (wt_gf σ471 108 28)
              have g675 : 0 ≤ (wt_gf σ471 108 28).toInt ∧ (wt_gf σ471 108 28).toInt ≤ 60 := wt_R_gf rσ471 6 rfl
              exact ⟨wt_fr.rf, (show 0 ≤ ((0 : Int32)).toInt by omega), rσ475⟩
            · skip
              have bb676 := wt_bd (wt_gf σ475 108 28)
              have g677 : 0 ≤ (wt_gf σ475 108 28).toInt ∧ (wt_gf σ475 108 28).toInt ≤ 60 := wt_R_gf rσ475 6 rfl
              have tt678 : (wt_gf σ475 108 28).toInt = (wt_gf σ471 108 28).toInt := congrArg Int32.toInt (fσ475.1 108 28 (by (try dsimp only); omega))
              have bb679 := wt_bd (wt_gf σ471 108 28)
              have g680 : 0 ≤ (wt_gf σ471 108 28).toInt ∧ (wt_gf σ471 108 28).toInt ≤ 60 := wt_R_gf rσ471 6 rfl
              show ((wt_gf σ475 108 28).toInt - (0 : Int32).toInt + 0).toNat < n
              omega
          · skip
            have c681 := wt_nceq h469
            refine wt_T_some ?_
            have k682 : (10 : Int32).toInt = 10 := by decide
            obtain ⟨j683, j683a, j683b⟩ := wt_subI (wt_gf σ464 108 5) (10 : Int32)
            have bb684 := wt_bd (wt_gf σ464 108 1)
            have g685 : 0 ≤ (wt_gf σ464 108 1).toInt ∧ (wt_gf σ464 108 1).toInt ≤ 500 := wt_R_gf rσ464 0 rfl
            have tt686 : (wt_gf σ464 108 1).toInt = (wt_gf z41 108 1).toInt := congrArg Int32.toInt (fσ464.1 108 1 (by (try dsimp only); omega))
            have bb687 := wt_bd (wt_gf z41 108 1)
            have g688 : 0 ≤ (wt_gf z41 108 1).toInt ∧ (wt_gf z41 108 1).toInt ≤ 500 := wt_R_gf l44 0 rfl
            have tt689 : (wt_gf z41 108 1).toInt = (wt_gf σ39 108 1).toInt := congrArg Int32.toInt (l43.1 108 1 (by (try dsimp only); omega))
            have bb690 := wt_bd (wt_gf σ39 108 1)
            have g691 : 0 ≤ (wt_gf σ39 108 1).toInt ∧ (wt_gf σ39 108 1).toInt ≤ 500 := wt_R_gf rσ39 0 rfl
            have tt692 : (wt_gf σ39 108 1).toInt = (wt_gf σ38 108 1).toInt := congrArg Int32.toInt (fσ39.1 108 1 (by (try dsimp only); omega))
            have bb693 := wt_bd (wt_gf σ38 108 1)
            have g694 : 0 ≤ (wt_gf σ38 108 1).toInt ∧ (wt_gf σ38 108 1).toInt ≤ 500 := wt_R_gf rσ38 0 rfl
            have tt695 : (wt_gf σ38 108 1).toInt = (wt_gf r27 108 1).toInt := congrArg Int32.toInt (fσ38.1 108 1 (by (try dsimp only); omega))
            exact ⟨(wt_fr.tr (wt_fr.tr (wt_fr.tr (wt_fr.tr (wt_fr.tr (wt_fr.tr (wt_fr.tr wt_fr.rf fσ2 (fun i k h => by (try dsimp only at h); exact Or.inl (by omega)) (fun i h => h.elim)) f19 (fun i k h => by (try dsimp only at h); exact Or.inl (by omega)) (fun i h => h.elim)) f29 (fun i k h => by (try dsimp only at h); rcases h with h | h | h | h | h | h; exact Or.inr (Or.inl (by omega)); exact Or.inr (Or.inr (Or.inl (by omega))); exact Or.inr (Or.inr (Or.inr (Or.inl (by omega)))); exact Or.inr (Or.inr (Or.inr (Or.inr (Or.inl (by omega))))); exact Or.inr (Or.inr (Or.inr (Or.inr (Or.inr (Or.inl (by omega)))))); exact Or.inr (Or.inr (Or.inr (Or.inr (Or.inr (Or.inr (Or.inl (by omega)))))))) (fun i h => h.elim)) fσ38 (fun i k h => by (try dsimp only at h); exact Or.inr (Or.inr (Or.inr (Or.inr (Or.inr (Or.inr (Or.inr (Or.inl (by omega))))))))) (fun i h => h.elim)) fσ39 (fun i k h => by (try dsimp only at h); exact Or.inr (Or.inr (Or.inr (Or.inr (Or.inr (Or.inr (Or.inr (Or.inr (Or.inl (by omega)))))))))) (fun i h => h.elim)) l43 (fun i k h => by (try dsimp only at h); rcases h with h | h | h | h | h; exact Or.inr (Or.inr (Or.inr (Or.inl (by omega)))); exact Or.inr (Or.inr (Or.inr (Or.inr (Or.inl (by omega))))); exact Or.inr (Or.inr (Or.inr (Or.inr (Or.inr (Or.inl (by omega)))))); exact Or.inr (Or.inr (Or.inr (Or.inr (Or.inr (Or.inr (Or.inr (Or.inr (Or.inl (by omega))))))))); exact Or.inr (Or.inr (Or.inr (Or.inr (Or.inr (Or.inr (Or.inr (Or.inl (by omega))))))))) (fun i h => by (try dsimp only at h); rcases h with h | h | h | h; exact Or.inr (Or.inr (Or.inr (Or.inr (Or.inr (Or.inr (Or.inl (by omega))))))); exact Or.inr (Or.inr (Or.inr (Or.inr (Or.inr (Or.inr (Or.inr (Or.inl (by omega)))))))); exact Or.inr (Or.inr (Or.inr (Or.inr (Or.inr (Or.inr (Or.inr (Or.inr (Or.inl (by omega))))))))); exact Or.inr (Or.inr (Or.inr (Or.inr (Or.inr (Or.inr (Or.inr (Or.inr (Or.inr ((by omega)))))))))))) fσ464 (fun i k h => by (try dsimp only at h); exact Or.inr (Or.inr (Or.inr (Or.inr (Or.inr (Or.inr (Or.inr (Or.inr (Or.inr (Or.inl (by omega))))))))))) (fun i h => h.elim)), rσ464, (show ((x1.toInt < 0 ∨ (wt_gf σ 108 1).toInt < x1.toInt → (wt_gf σ464 108 1).toInt = (wt_gf σ 108 1).toInt) ∧ (0 ≤ x1.toInt ∧ x1.toInt ≤ (wt_gf σ 108 1).toInt → (wt_gf σ464 108 1).toInt = 0)) from by omega)⟩
      · skip
        have bb696 := wt_bd (wt_gf σ39 108 27)
        have g697 : 0 ≤ (wt_gf σ39 108 27).toInt ∧ (wt_gf σ39 108 27).toInt ≤ 60 := wt_R_gf rσ39 5 rfl
        have tt698 : (wt_gf σ39 108 27).toInt = (wt_gf σ38 108 27).toInt := congrArg Int32.toInt (fσ39.1 108 27 (by (try dsimp only); omega))
        have bb699 := wt_bd (wt_gf σ38 108 27)
        have g700 : 0 ≤ (wt_gf σ38 108 27).toInt ∧ (wt_gf σ38 108 27).toInt ≤ 60 := wt_R_gf rσ38 5 rfl
        have bb701 := wt_bd (wt_gf σ39 108 5)
        have g702 : 0 ≤ (wt_gf σ39 108 5).toInt ∧ (wt_gf σ39 108 5).toInt ≤ 3 := wt_R_gf rσ39 3 rfl
        have tt703 : (wt_gf σ39 108 5).toInt = (wt_gf σ38 108 5).toInt := congrArg Int32.toInt (fσ39.1 108 5 (by (try dsimp only); omega))
        have bb704 := wt_bd (wt_gf σ38 108 5)
        have g705 : 0 ≤ (wt_gf σ38 108 5).toInt ∧ (wt_gf σ38 108 5).toInt ≤ 3 := wt_R_gf rσ38 3 rfl
        have tt706 : (wt_gf σ38 108 5).toInt = (wt_gf r27 108 5).toInt := congrArg Int32.toInt (fσ38.1 108 5 (by (try dsimp only); omega))
        exact ⟨wt_fr.rf, rσ39⟩
      · skip
        have bb707 := wt_bd (wt_gf σ39 108 27)
        have g708 : 0 ≤ (wt_gf σ39 108 27).toInt ∧ (wt_gf σ39 108 27).toInt ≤ 60 := wt_R_gf rσ39 5 rfl
        have tt709 : (wt_gf σ39 108 27).toInt = (wt_gf σ38 108 27).toInt := congrArg Int32.toInt (fσ39.1 108 27 (by (try dsimp only); omega))
        have bb710 := wt_bd (wt_gf σ38 108 27)
        have g711 : 0 ≤ (wt_gf σ38 108 27).toInt ∧ (wt_gf σ38 108 27).toInt ≤ 60 := wt_R_gf rσ38 5 rfl
        have bb712 := wt_bd (wt_gf σ39 108 5)
        have g713 : 0 ≤ (wt_gf σ39 108 5).toInt ∧ (wt_gf σ39 108 5).toInt ≤ 3 := wt_R_gf rσ39 3 rfl
        have tt714 : (wt_gf σ39 108 5).toInt = (wt_gf σ38 108 5).toInt := congrArg Int32.toInt (fσ39.1 108 5 (by (try dsimp only); omega))
        have bb715 := wt_bd (wt_gf σ38 108 5)
        have g716 : 0 ≤ (wt_gf σ38 108 5).toInt ∧ (wt_gf σ38 108 5).toInt ≤ 3 := wt_R_gf rσ38 3 rfl
        have tt717 : (wt_gf σ38 108 5).toInt = (wt_gf r27 108 5).toInt := congrArg Int32.toInt (fσ38.1 108 5 (by (try dsimp only); omega))
        show (4 * (60 - (wt_gf σ39 108 27).toInt) + 3 - (wt_gf σ39 108 5).toInt).toNat < n
        omega
    · skip
      have c718 := wt_nceq h25
      refine wt_T_some ?_
      have bb719 := wt_bd (wt_gf r17.2 108 1)
      have g720 : 0 ≤ (wt_gf r17.2 108 1).toInt ∧ (wt_gf r17.2 108 1).toInt ≤ 500 := wt_R_gf ri20 0 rfl
      have tt721 : (wt_gf r17.2 108 1).toInt = (wt_gf σ2 108 1).toInt := congrArg Int32.toInt (f19.1 108 1 (by (try dsimp only); omega))
      exact ⟨(wt_fr.tr (wt_fr.tr wt_fr.rf fσ2 (fun i k h => by (try dsimp only at h); exact Or.inl (by omega)) (fun i h => h.elim)) f19 (fun i k h => by (try dsimp only at h); exact Or.inl (by omega)) (fun i h => h.elim)), ri20, (show ((x1.toInt < 0 ∨ (wt_gf σ 108 1).toInt < x1.toInt → (wt_gf r17.2 108 1).toInt = (wt_gf σ 108 1).toInt) ∧ (0 ≤ x1.toInt ∧ x1.toInt ≤ (wt_gf σ 108 1).toInt → (wt_gf r17.2 108 1).toInt = 0)) from by omega)⟩
  · skip
    have c722 := wt_nceq h14
    unfold wp_md_tongue_B23
    have k723 : (1 : Int32).toInt = 1 := by decide
    refine wt_T_bi (wq_md_bad n hn (0 : Int32) (1 : Int32) σ2 rσ2 (by omega)) (fun r724 h725 => ?_)
    obtain ⟨f726, ri727, pp728⟩ := h725
    have bb729 := wt_bd r724.1
    have bb730 := wt_bd (wt_gf r724.2 108 0)
    have bb731 := wt_bd (wt_gf σ2 108 0)
    refine wt_T_if (fun h732 => ?_) (fun h732 => ?_)
    · skip
      have c733 := wt_ceq h732
      refine wt_T_bi (wq_md_starts n hn x1 r724.2 ri727 (by omega) (by omega)) (fun r734 h735 => ?_)
      obtain ⟨f736, ri737, pp738⟩ := h735
      have bb739 := wt_bd (wt_gf r734 108 1)
      have g740 : 0 ≤ (wt_gf r734 108 1).toInt ∧ (wt_gf r734 108 1).toInt ≤ 500 := wt_R_gf ri737 0 rfl
      have bb741 := wt_bd (wt_gf r734 108 5)
      have g742 : 0 ≤ (wt_gf r734 108 5).toInt ∧ (wt_gf r734 108 5).toInt ≤ 3 := wt_R_gf ri737 3 rfl
      have bb743 := wt_bd (wt_gf r734 108 7)
      have g744 : 0 ≤ (wt_gf r734 108 7).toInt ∧ (wt_gf r734 108 7).toInt ≤ 60 := wt_R_gf ri737 4 rfl
      obtain ⟨σ745, eσ745⟩ : ∃ z : wt_St, z = wt_sf r734 108 27 (0 : Int32) := ⟨_, rfl⟩
      rw [← eσ745]
      have fσ745 := wt_fr_sf eσ745
      have vσ745 := wt_ceq (wt_v_sf eσ745)
      have rσ745 := wt_RI_fin ri737 eσ745 5 rfl rfl (show 0 ≤ ((0 : Int32)).toInt by omega) (show ((0 : Int32)).toInt ≤ 60 by omega)
      obtain ⟨σ746, eσ746⟩ : ∃ z : wt_St, z = wt_sf σ745 108 29 (0 : Int32) := ⟨_, rfl⟩
      rw [← eσ746]
      have fσ746 := wt_fr_sf eσ746
      have vσ746 := wt_ceq (wt_v_sf eσ746)
      have rσ746 := wt_RI_fno rσ745 eσ746 (Or.inr (by decide))
      refine wt_T_it (fun s : wt_St => wt_fr (fun i k => (i = 108 ∧ k = 4) ∨ (i = 108 ∧ k = 5) ∨ (i = 108 ∧ k = 6) ∨ (i = 108 ∧ k = 29) ∨ (i = 108 ∧ k = 27)) (fun i => i = 125 ∨ i = 127 ∨ i = 129 ∨ (132 ≤ i ∧ i < 192)) σ746 s ∧ wt_RI s) (fun s : wt_St => (4 * (60 - (wt_gf s 108 27).toInt) + 3 - (wt_gf s 108 5).toInt).toNat) (fun KK747 z748 I749 hKK747 => ?_) _ _ ?_ ?_
      · skip
        obtain ⟨l750, l751⟩ := I749
        unfold wp_md_tongue_B47
        have bb752 := wt_bd (wt_gf z748 108 27)
        have g753 : 0 ≤ (wt_gf z748 108 27).toInt ∧ (wt_gf z748 108 27).toInt ≤ 60 := wt_R_gf l751 5 rfl
        have bb754 := wt_bd (wt_gf z748 108 5)
        have g755 : 0 ≤ (wt_gf z748 108 5).toInt ∧ (wt_gf z748 108 5).toInt ≤ 3 := wt_R_gf l751 3 rfl
        refine wt_T_if (fun h756 => ?_) (fun h756 => ?_)
        · skip
          have c757 := wt_ceq h756
          have bb758 := wt_bd (wt_gf z748 108 2)
          have g759 : 0 ≤ (wt_gf z748 108 2).toInt ∧ (wt_gf z748 108 2).toInt ≤ 500 := wt_R_gf l751 1 rfl
          have tt760 : (wt_gf z748 108 2).toInt = (wt_gf σ746 108 2).toInt := congrArg Int32.toInt (l750.1 108 2 (by (try dsimp only); omega))
          have bb761 := wt_bd (wt_gf σ746 108 2)
          have g762 : 0 ≤ (wt_gf σ746 108 2).toInt ∧ (wt_gf σ746 108 2).toInt ≤ 500 := wt_R_gf rσ746 1 rfl
          have tt763 : (wt_gf σ746 108 2).toInt = (wt_gf σ745 108 2).toInt := congrArg Int32.toInt (fσ746.1 108 2 (by (try dsimp only); omega))
          have bb764 := wt_bd (wt_gf σ745 108 2)
          have g765 : 0 ≤ (wt_gf σ745 108 2).toInt ∧ (wt_gf σ745 108 2).toInt ≤ 500 := wt_R_gf rσ745 1 rfl
          have tt766 : (wt_gf σ745 108 2).toInt = (wt_gf r734 108 2).toInt := congrArg Int32.toInt (fσ745.1 108 2 (by (try dsimp only); omega))
          have bb767 := wt_bd (wt_gf r734 108 2)
          have g768 : 0 ≤ (wt_gf r734 108 2).toInt ∧ (wt_gf r734 108 2).toInt ≤ 500 := wt_R_gf ri737 1 rfl
          have bb769 := wt_bd (wt_gf z748 108 4)
          have g770 : 0 ≤ (wt_gf z748 108 4).toInt ∧ (wt_gf z748 108 4).toInt ≤ 500 := wt_R_gf l751 2 rfl
          refine wt_T_if (fun h771 => ?_) (fun h771 => ?_)
          · skip
            have c772 := wt_cle h771
            unfold wp_md_tongue_B134
            obtain ⟨σ773, eσ773⟩ : ∃ z : wt_St, z = wt_sf z748 108 3 (wt_gf z748 108 6) := ⟨_, rfl⟩
            rw [← eσ773]
            have fσ773 := wt_fr_sf eσ773
            have vσ773 := wt_ceq (wt_v_sf eσ773)
            have bb774 := wt_bd (wt_gf z748 108 6)
            have rσ773 := wt_RI_fno l751 eσ773 (Or.inr (by decide))
            have bb775 := wt_bd (wt_gf σ773 108 5)
            have g776 : 0 ≤ (wt_gf σ773 108 5).toInt ∧ (wt_gf σ773 108 5).toInt ≤ 3 := wt_R_gf rσ773 3 rfl
            have tt777 : (wt_gf σ773 108 5).toInt = (wt_gf z748 108 5).toInt := congrArg Int32.toInt (fσ773.1 108 5 (by (try dsimp only); omega))
            refine wt_T_if (fun h778 => ?_) (fun h778 => ?_)
            · skip
              have c779 := wt_ceq h778
              obtain ⟨σ780, eσ780⟩ : ∃ z : wt_St, z = wt_sf σ773 108 28 (wt_gf σ773 108 27) := ⟨_, rfl⟩
              rw [← eσ780]
              have fσ780 := wt_fr_sf eσ780
              have vσ780 := wt_ceq (wt_v_sf eσ780)
              have bb781 := wt_bd (wt_gf σ773 108 27)
              have g782 : 0 ≤ (wt_gf σ773 108 27).toInt ∧ (wt_gf σ773 108 27).toInt ≤ 60 := wt_R_gf rσ773 5 rfl
              have tt783 : (wt_gf σ773 108 27).toInt = (wt_gf z748 108 27).toInt := congrArg Int32.toInt (fσ773.1 108 27 (by (try dsimp only); omega))
              have rσ780 := wt_RI_fin rσ773 eσ780 6 rfl rfl (show 0 ≤ (wt_gf σ773 108 27).toInt by omega) (show (wt_gf σ773 108 27).toInt ≤ 60 by omega)
              obtain ⟨σ784, eσ784⟩ : ∃ z : wt_St, z = wt_sf σ780 108 30 (wt_gf σ780 108 29) := ⟨_, rfl⟩
              rw [← eσ784]
              have fσ784 := wt_fr_sf eσ784
              have vσ784 := wt_ceq (wt_v_sf eσ784)
              have bb785 := wt_bd (wt_gf σ780 108 29)
              have tt786 : (wt_gf σ780 108 29).toInt = (wt_gf σ773 108 29).toInt := congrArg Int32.toInt (fσ780.1 108 29 (by (try dsimp only); omega))
              have bb787 := wt_bd (wt_gf σ773 108 29)
              have tt788 : (wt_gf σ773 108 29).toInt = (wt_gf z748 108 29).toInt := congrArg Int32.toInt (fσ773.1 108 29 (by (try dsimp only); omega))
              have bb789 := wt_bd (wt_gf z748 108 29)
              have rσ784 := wt_RI_fno rσ780 eσ784 (Or.inr (by decide))
              refine wt_T_it (fun s : Int32 × wt_St => wt_fr (fun i k => False) (fun i => i = 126 ∨ i = 128 ∨ i = 130 ∨ (193 ≤ i ∧ i < 253)) σ784 s.2 ∧ 0 ≤ (s.1).toInt ∧ wt_RI s.2) (fun s : Int32 × wt_St => ((wt_gf s.2 108 28).toInt - s.1.toInt + 0).toNat) (fun KK790 z791 I792 hKK790 => ?_) _ _ ?_ ?_
              · skip
                obtain ⟨l793, l794, l795⟩ := I792
                unfold wp_md_tongue_B175
                have bb796 := wt_bd (wt_gf z791.2 108 28)
                have g797 : 0 ≤ (wt_gf z791.2 108 28).toInt ∧ (wt_gf z791.2 108 28).toInt ≤ 60 := wt_R_gf l795 6 rfl
                have tt798 : (wt_gf z791.2 108 28).toInt = (wt_gf σ784 108 28).toInt := congrArg Int32.toInt (l793.1 108 28 (fun z => z))
                have bb799 := wt_bd (wt_gf σ784 108 28)
                have g800 : 0 ≤ (wt_gf σ784 108 28).toInt ∧ (wt_gf σ784 108 28).toInt ≤ 60 := wt_R_gf rσ784 6 rfl
                have tt801 : (wt_gf σ784 108 28).toInt = (wt_gf σ780 108 28).toInt := congrArg Int32.toInt (fσ784.1 108 28 (by (try dsimp only); omega))
                have bb802 := wt_bd (wt_gf σ780 108 28)
                have g803 : 0 ≤ (wt_gf σ780 108 28).toInt ∧ (wt_gf σ780 108 28).toInt ≤ 60 := wt_R_gf rσ780 6 rfl
                have bb804 := wt_bd z791.1
                refine wt_T_if (fun h805 => ?_) (fun h805 => ?_)
                · skip
                  have c806 := wt_cle h805
                  obtain ⟨σ807, eσ807⟩ : ∃ z : wt_St, z = wt_sf z791.2 108 39 (0 : Int32) := ⟨_, rfl⟩
                  rw [← eσ807]
                  have fσ807 := wt_fr_sf eσ807
                  have vσ807 := wt_ceq (wt_v_sf eσ807)
                  have rσ807 := wt_RI_fin l795 eσ807 7 rfl rfl (show 0 ≤ ((0 : Int32)).toInt by omega) (show ((0 : Int32)).toInt ≤ 8 by omega)
                  obtain ⟨σ808, eσ808⟩ : ∃ z : wt_St, z = wt_sf σ807 108 40 (0 : Int32) := ⟨_, rfl⟩
                  rw [← eσ808]
                  have fσ808 := wt_fr_sf eσ808
                  have vσ808 := wt_ceq (wt_v_sf eσ808)
                  have rσ808 := wt_RI_fin rσ807 eσ808 8 rfl rfl (show 0 ≤ ((0 : Int32)).toInt by omega) (show ((0 : Int32)).toInt ≤ 10 by omega)
                  obtain ⟨σ809, eσ809⟩ : ∃ z : wt_St, z = wt_sf σ808 108 41 (0 : Int32) := ⟨_, rfl⟩
                  rw [← eσ809]
                  have fσ809 := wt_fr_sf eσ809
                  have vσ809 := wt_ceq (wt_v_sf eσ809)
                  have rσ809 := wt_RI_fin rσ808 eσ809 9 rfl rfl (show 0 ≤ ((0 : Int32)).toInt by omega) (show ((0 : Int32)).toInt ≤ 3 by omega)
                  refine wt_T_it (fun s : Int32 × wt_St => wt_fr (fun i k => False) (fun i => i = 275 ∨ i = 124) σ809 s.2 ∧ 0 ≤ (s.1).toInt ∧ wt_RI s.2) (fun s : Int32 × wt_St => ((4 : Int32).toInt - s.1.toInt + 0).toNat) (fun KK810 z811 I812 hKK810 => ?_) _ _ ?_ ?_
                  · skip
                    obtain ⟨l813, l814, l815⟩ := I812
                    unfold wp_md_tongue_B272
                    have k816 : (4 : Int32).toInt = 4 := by decide
                    have bb817 := wt_bd z811.1
                    refine wt_T_if (fun h818 => ?_) (fun h818 => ?_)
                    · skip
                      have c819 := wt_cle h818
                      refine wt_T_some ?_
                      have bb820 := wt_bd (wt_gf z811.2 108 28)
                      have g821 : 0 ≤ (wt_gf z811.2 108 28).toInt ∧ (wt_gf z811.2 108 28).toInt ≤ 60 := wt_R_gf l815 6 rfl
                      have tt822 : (wt_gf z811.2 108 28).toInt = (wt_gf σ809 108 28).toInt := congrArg Int32.toInt (l813.1 108 28 (fun z => z))
                      have bb823 := wt_bd (wt_gf σ809 108 28)
                      have g824 : 0 ≤ (wt_gf σ809 108 28).toInt ∧ (wt_gf σ809 108 28).toInt ≤ 60 := wt_R_gf rσ809 6 rfl
                      have tt825 : (wt_gf σ809 108 28).toInt = (wt_gf σ808 108 28).toInt := congrArg Int32.toInt (fσ809.1 108 28 (by (try dsimp only); omega))
                      have bb826 := wt_bd (wt_gf σ808 108 28)
                      have g827 : 0 ≤ (wt_gf σ808 108 28).toInt ∧ (wt_gf σ808 108 28).toInt ≤ 60 := wt_R_gf rσ808 6 rfl
                      have tt828 : (wt_gf σ808 108 28).toInt = (wt_gf σ807 108 28).toInt := congrArg Int32.toInt (fσ808.1 108 28 (by (try dsimp only); omega))
                      have bb829 := wt_bd (wt_gf σ807 108 28)
                      have g830 : 0 ≤ (wt_gf σ807 108 28).toInt ∧ (wt_gf σ807 108 28).toInt ≤ 60 := wt_R_gf rσ807 6 rfl
                      have tt831 : (wt_gf σ807 108 28).toInt = (wt_gf z791.2 108 28).toInt := congrArg Int32.toInt (fσ807.1 108 28 (by (try dsimp only); omega))
                      have bb832 := wt_bd (wt_gf z811.2 108 1)
                      have g833 : 0 ≤ (wt_gf z811.2 108 1).toInt ∧ (wt_gf z811.2 108 1).toInt ≤ 500 := wt_R_gf l815 0 rfl
                      have tt834 : (wt_gf z811.2 108 1).toInt = (wt_gf σ809 108 1).toInt := congrArg Int32.toInt (l813.1 108 1 (fun z => z))
                      have bb835 := wt_bd (wt_gf σ809 108 1)
                      have g836 : 0 ≤ (wt_gf σ809 108 1).toInt ∧ (wt_gf σ809 108 1).toInt ≤ 500 := wt_R_gf rσ809 0 rfl
                      have tt837 : (wt_gf σ809 108 1).toInt = (wt_gf σ808 108 1).toInt := congrArg Int32.toInt (fσ809.1 108 1 (by (try dsimp only); omega))
                      have bb838 := wt_bd (wt_gf σ808 108 1)
                      have g839 : 0 ≤ (wt_gf σ808 108 1).toInt ∧ (wt_gf σ808 108 1).toInt ≤ 500 := wt_R_gf rσ808 0 rfl
                      have tt840 : (wt_gf σ808 108 1).toInt = (wt_gf σ807 108 1).toInt := congrArg Int32.toInt (fσ808.1 108 1 (by (try dsimp only); omega))
                      have bb841 := wt_bd (wt_gf σ807 108 1)
                      have g842 : 0 ≤ (wt_gf σ807 108 1).toInt ∧ (wt_gf σ807 108 1).toInt ≤ 500 := wt_R_gf rσ807 0 rfl
                      have tt843 : (wt_gf σ807 108 1).toInt = (wt_gf z791.2 108 1).toInt := congrArg Int32.toInt (fσ807.1 108 1 (by (try dsimp only); omega))
                      have bb844 := wt_bd (wt_gf z791.2 108 1)
                      have g845 : 0 ≤ (wt_gf z791.2 108 1).toInt ∧ (wt_gf z791.2 108 1).toInt ≤ 500 := wt_R_gf l795 0 rfl
                      have tt846 : (wt_gf z791.2 108 1).toInt = (wt_gf σ784 108 1).toInt := congrArg Int32.toInt (l793.1 108 1 (fun z => z))
                      have bb847 := wt_bd (wt_gf σ784 108 1)
                      have g848 : 0 ≤ (wt_gf σ784 108 1).toInt ∧ (wt_gf σ784 108 1).toInt ≤ 500 := wt_R_gf rσ784 0 rfl
                      have tt849 : (wt_gf σ784 108 1).toInt = (wt_gf σ780 108 1).toInt := congrArg Int32.toInt (fσ784.1 108 1 (by (try dsimp only); omega))
                      have bb850 := wt_bd (wt_gf σ780 108 1)
                      have g851 : 0 ≤ (wt_gf σ780 108 1).toInt ∧ (wt_gf σ780 108 1).toInt ≤ 500 := wt_R_gf rσ780 0 rfl
                      have tt852 : (wt_gf σ780 108 1).toInt = (wt_gf σ773 108 1).toInt := congrArg Int32.toInt (fσ780.1 108 1 (by (try dsimp only); omega))
                      have bb853 := wt_bd (wt_gf σ773 108 1)
                      have g854 : 0 ≤ (wt_gf σ773 108 1).toInt ∧ (wt_gf σ773 108 1).toInt ≤ 500 := wt_R_gf rσ773 0 rfl
                      have tt855 : (wt_gf σ773 108 1).toInt = (wt_gf z748 108 1).toInt := congrArg Int32.toInt (fσ773.1 108 1 (by (try dsimp only); omega))
                      have bb856 := wt_bd (wt_gf z748 108 1)
                      have g857 : 0 ≤ (wt_gf z748 108 1).toInt ∧ (wt_gf z748 108 1).toInt ≤ 500 := wt_R_gf l751 0 rfl
                      have tt858 : (wt_gf z748 108 1).toInt = (wt_gf σ746 108 1).toInt := congrArg Int32.toInt (l750.1 108 1 (by (try dsimp only); omega))
                      have bb859 := wt_bd (wt_gf σ746 108 1)
                      have g860 : 0 ≤ (wt_gf σ746 108 1).toInt ∧ (wt_gf σ746 108 1).toInt ≤ 500 := wt_R_gf rσ746 0 rfl
                      have tt861 : (wt_gf σ746 108 1).toInt = (wt_gf σ745 108 1).toInt := congrArg Int32.toInt (fσ746.1 108 1 (by (try dsimp only); omega))
                      have bb862 := wt_bd (wt_gf σ745 108 1)
                      have g863 : 0 ≤ (wt_gf σ745 108 1).toInt ∧ (wt_gf σ745 108 1).toInt ≤ 500 := wt_R_gf rσ745 0 rfl
                      have tt864 : (wt_gf σ745 108 1).toInt = (wt_gf r734 108 1).toInt := congrArg Int32.toInt (fσ745.1 108 1 (by (try dsimp only); omega))
                      exact ⟨(wt_fr.tr (wt_fr.tr (wt_fr.tr (wt_fr.tr (wt_fr.tr (wt_fr.tr (wt_fr.tr (wt_fr.tr (wt_fr.tr (wt_fr.tr (wt_fr.tr (wt_fr.tr (wt_fr.tr (wt_fr.tr wt_fr.rf fσ2 (fun i k h => by (try dsimp only at h); exact Or.inl (by omega)) (fun i h => h.elim)) f726 (fun i k h => by (try dsimp only at h); exact Or.inl (by omega)) (fun i h => h.elim)) f736 (fun i k h => by (try dsimp only at h); rcases h with h | h | h | h | h | h; exact Or.inr (Or.inl (by omega)); exact Or.inr (Or.inr (Or.inl (by omega))); exact Or.inr (Or.inr (Or.inr (Or.inl (by omega)))); exact Or.inr (Or.inr (Or.inr (Or.inr (Or.inl (by omega))))); exact Or.inr (Or.inr (Or.inr (Or.inr (Or.inr (Or.inl (by omega)))))); exact Or.inr (Or.inr (Or.inr (Or.inr (Or.inr (Or.inr (Or.inl (by omega)))))))) (fun i h => h.elim)) fσ745 (fun i k h => by (try dsimp only at h); exact Or.inr (Or.inr (Or.inr (Or.inr (Or.inr (Or.inr (Or.inr (Or.inl (by omega))))))))) (fun i h => h.elim)) fσ746 (fun i k h => by (try dsimp only at h); exact Or.inr (Or.inr (Or.inr (Or.inr (Or.inr (Or.inr (Or.inr (Or.inr (Or.inl (by omega)))))))))) (fun i h => h.elim)) l750 (fun i k h => by (try dsimp only at h); rcases h with h | h | h | h | h; exact Or.inr (Or.inr (Or.inr (Or.inl (by omega)))); exact Or.inr (Or.inr (Or.inr (Or.inr (Or.inl (by omega))))); exact Or.inr (Or.inr (Or.inr (Or.inr (Or.inr (Or.inl (by omega)))))); exact Or.inr (Or.inr (Or.inr (Or.inr (Or.inr (Or.inr (Or.inr (Or.inr (Or.inl (by omega))))))))); exact Or.inr (Or.inr (Or.inr (Or.inr (Or.inr (Or.inr (Or.inr (Or.inl (by omega))))))))) (fun i h => by (try dsimp only at h); rcases h with h | h | h | h; exact Or.inr (Or.inr (Or.inr (Or.inr (Or.inr (Or.inr (Or.inl (by omega))))))); exact Or.inr (Or.inr (Or.inr (Or.inr (Or.inr (Or.inr (Or.inr (Or.inl (by omega)))))))); exact Or.inr (Or.inr (Or.inr (Or.inr (Or.inr (Or.inr (Or.inr (Or.inr (Or.inl (by omega))))))))); exact Or.inr (Or.inr (Or.inr (Or.inr (Or.inr (Or.inr (Or.inr (Or.inr (Or.inr ((by omega)))))))))))) fσ773 (fun i k h => by (try dsimp only at h); exact Or.inr (Or.inr (Or.inr (Or.inr (Or.inr (Or.inr (Or.inr (Or.inr (Or.inr (Or.inl (by omega))))))))))) (fun i h => h.elim)) fσ780 (fun i k h => by (try dsimp only at h); exact Or.inr (Or.inr (Or.inr (Or.inr (Or.inr (Or.inr (Or.inr (Or.inr (Or.inr (Or.inr (Or.inl (by omega)))))))))))) (fun i h => h.elim)) fσ784 (fun i k h => by (try dsimp only at h); exact Or.inr (Or.inr (Or.inr (Or.inr (Or.inr (Or.inr (Or.inr (Or.inr (Or.inr (Or.inr (Or.inr (Or.inl (by omega))))))))))))) (fun i h => h.elim)) l793 (fun i k h => h.elim) (fun i h => by (try dsimp only at h); rcases h with h | h | h | h; exact Or.inr (Or.inr (Or.inl (by omega))); exact Or.inr (Or.inr (Or.inr (Or.inl (by omega)))); exact Or.inr (Or.inr (Or.inr (Or.inr (Or.inl (by omega))))); exact Or.inr (Or.inr (Or.inr (Or.inr (Or.inr (Or.inl (by omega)))))))) fσ807 (fun i k h => by (try dsimp only at h); exact Or.inr (Or.inr (Or.inr (Or.inr (Or.inr (Or.inr (Or.inr (Or.inr (Or.inr (Or.inr (Or.inr (Or.inr (Or.inl (by omega)))))))))))))) (fun i h => h.elim)) fσ808 (fun i k h => by (try dsimp only at h); exact Or.inr (Or.inr (Or.inr (Or.inr (Or.inr (Or.inr (Or.inr (Or.inr (Or.inr (Or.inr (Or.inr (Or.inr (Or.inr (Or.inl (by omega))))))))))))))) (fun i h => h.elim)) fσ809 (fun i k h => by (try dsimp only at h); exact Or.inr (Or.inr (Or.inr (Or.inr (Or.inr (Or.inr (Or.inr (Or.inr (Or.inr (Or.inr (Or.inr (Or.inr (Or.inr (Or.inr ((by omega)))))))))))))))) (fun i h => h.elim)) l813 (fun i k h => h.elim) (fun i h => by (try dsimp only at h); rcases h with h | h; exact Or.inl (by omega); exact Or.inr (Or.inl (by omega)))), l815, (show ((x1.toInt < 0 ∨ (wt_gf σ 108 1).toInt < x1.toInt → (wt_gf z811.2 108 1).toInt = (wt_gf σ 108 1).toInt) ∧ (0 ≤ x1.toInt ∧ x1.toInt ≤ (wt_gf σ 108 1).toInt → (wt_gf z811.2 108 1).toInt = 0)) from by omega)⟩
                    · skip
                      have c865 := wt_ncle h818
                      refine wt_T_gd (wt_ix (by omega) (by omega)) ?_
                      have bb866 := wt_tn z811.1
                      have bb867 := wt_bd (wt_ga z811.2 275 (Int32.toNatClampNeg z811.1))
                      have g868 : -1 ≤ (wt_ga z811.2 275 (Int32.toNatClampNeg z811.1)).toInt ∧ (wt_ga z811.2 275 (Int32.toNatClampNeg z811.1)).toInt ≤ 7 := wt_R_ga l815 12 rfl 275 (by decide) (by decide) (Int32.toNatClampNeg z811.1)
                      refine wt_T_if (fun h869 => ?_) (fun h869 => ?_)
                      · skip
                        have c870 := wt_ceq h869
                        rw [wt_lm1] at c870
                        unfold wp_md_tongue_B292
                        refine hKK810 _ ⟨(wt_fr.tr wt_fr.rf l813 (fun i k h => h.elim) (fun i h => by (try dsimp only at h); rcases h with h | h; exact Or.inl (by omega); exact Or.inr ((by omega)))), (wt_nn (B := (4 : Int32)) (by omega) (by omega)), l815⟩ ?_
                        show ((4 : Int32).toInt - (z811.1 + (1 : Int32)).toInt + 0).toNat < ((4 : Int32).toInt - z811.1.toInt + 0).toNat
                        exact wt_mu (by omega) (by omega)
                      · skip
                        have c871 := wt_nceq h869
                        rw [wt_lm1] at c871
                        refine wt_T_bi (wq_md_takesApart n hn z811.1 z811.2 l815 (by omega) (by omega)) (fun r872 h873 => ?_)
                        obtain ⟨f874, ri875⟩ := h873
                        unfold wp_md_tongue_B292
                        refine hKK810 _ ⟨(wt_fr.tr (wt_fr.tr wt_fr.rf l813 (fun i k h => h.elim) (fun i h => by (try dsimp only at h); rcases h with h | h; exact Or.inl (by omega); exact Or.inr ((by omega)))) f874 (fun i k h => h.elim) (fun i h => by (try dsimp only at h); rcases h with h | h; exact Or.inl (by omega); exact Or.inr ((by omega)))), (wt_nn (B := (4 : Int32)) (by omega) (by omega)), ri875⟩ ?_
                        show ((4 : Int32).toInt - (z811.1 + (1 : Int32)).toInt + 0).toNat < ((4 : Int32).toInt - z811.1.toInt + 0).toNat
                        exact wt_mu (by omega) (by omega)
                  · skip
                    have k876 : (4 : Int32).toInt = 4 := by decide
                    exact ⟨wt_fr.rf, (show 0 ≤ ((0 : Int32)).toInt by omega), rσ809⟩
                  · skip
                    have k877 : (4 : Int32).toInt = 4 := by decide
                    show ((4 : Int32).toInt - (0 : Int32).toInt + 0).toNat < n
                    omega
                · skip
                  have c878 := wt_ncle h805
                  refine wt_T_gd (wt_ix (by omega) (by omega)) ?_
                  refine wt_T_gd (wt_ix (by omega) (by omega)) ?_
                  refine wt_T_gd (wt_ix (by omega) (by omega)) ?_
                  refine wt_T_gd (wt_ix (by omega) (by omega)) ?_
                  refine wt_T_gd (wt_ix (by omega) (by omega)) ?_
                  refine wt_T_gd (wt_ix (by omega) (by omega)) ?_
                  obtain ⟨σ879, eσ879⟩ : ∃ z : wt_St, z = wt_sa z791.2 126 (Int32.toNatClampNeg z791.1) (wt_ga z791.2 125 (Int32.toNatClampNeg z791.1)) := ⟨_, rfl⟩
                  rw [← eσ879]
                  have fσ879 := wt_fr_sa eσ879
                  have vσ879 := wt_ceq (wt_v_sa eσ879)
                  have bb880 := wt_tn z791.1
                  have bb881 := wt_bd (wt_ga z791.2 125 (Int32.toNatClampNeg z791.1))
                  have g882 : 0 ≤ (wt_ga z791.2 125 (Int32.toNatClampNeg z791.1)).toInt ∧ (wt_ga z791.2 125 (Int32.toNatClampNeg z791.1)).toInt ≤ 9 := wt_R_ga l795 5 rfl 125 (by decide) (by decide) (Int32.toNatClampNeg z791.1)
                  have tt883 : (wt_ga z791.2 125 (Int32.toNatClampNeg z791.1)).toInt = (wt_ga σ784 125 (Int32.toNatClampNeg z791.1)).toInt := congrArg Int32.toInt (l793.2 125 (by (try dsimp only); omega) (Int32.toNatClampNeg z791.1))
                  have bb884 := wt_bd (wt_ga σ784 125 (Int32.toNatClampNeg z791.1))
                  have g885 : 0 ≤ (wt_ga σ784 125 (Int32.toNatClampNeg z791.1)).toInt ∧ (wt_ga σ784 125 (Int32.toNatClampNeg z791.1)).toInt ≤ 9 := wt_R_ga rσ784 5 rfl 125 (by decide) (by decide) (Int32.toNatClampNeg z791.1)
                  have tt886 : (wt_ga σ784 125 (Int32.toNatClampNeg z791.1)).toInt = (wt_ga σ780 125 (Int32.toNatClampNeg z791.1)).toInt := congrArg Int32.toInt (fσ784.2 125 (fun z => z) (Int32.toNatClampNeg z791.1))
                  have bb887 := wt_bd (wt_ga σ780 125 (Int32.toNatClampNeg z791.1))
                  have g888 : 0 ≤ (wt_ga σ780 125 (Int32.toNatClampNeg z791.1)).toInt ∧ (wt_ga σ780 125 (Int32.toNatClampNeg z791.1)).toInt ≤ 9 := wt_R_ga rσ780 5 rfl 125 (by decide) (by decide) (Int32.toNatClampNeg z791.1)
                  have tt889 : (wt_ga σ780 125 (Int32.toNatClampNeg z791.1)).toInt = (wt_ga σ773 125 (Int32.toNatClampNeg z791.1)).toInt := congrArg Int32.toInt (fσ780.2 125 (fun z => z) (Int32.toNatClampNeg z791.1))
                  have bb890 := wt_bd (wt_ga σ773 125 (Int32.toNatClampNeg z791.1))
                  have g891 : 0 ≤ (wt_ga σ773 125 (Int32.toNatClampNeg z791.1)).toInt ∧ (wt_ga σ773 125 (Int32.toNatClampNeg z791.1)).toInt ≤ 9 := wt_R_ga rσ773 5 rfl 125 (by decide) (by decide) (Int32.toNatClampNeg z791.1)
                  have tt892 : (wt_ga σ773 125 (Int32.toNatClampNeg z791.1)).toInt = (wt_ga z748 125 (Int32.toNatClampNeg z791.1)).toInt := congrArg Int32.toInt (fσ773.2 125 (fun z => z) (Int32.toNatClampNeg z791.1))
                  have bb893 := wt_bd (wt_ga z748 125 (Int32.toNatClampNeg z791.1))
                  have g894 : 0 ≤ (wt_ga z748 125 (Int32.toNatClampNeg z791.1)).toInt ∧ (wt_ga z748 125 (Int32.toNatClampNeg z791.1)).toInt ≤ 9 := wt_R_ga l751 5 rfl 125 (by decide) (by decide) (Int32.toNatClampNeg z791.1)
                  have rσ879 := wt_RI_in l795 eσ879 5 rfl (by decide) (by decide) (show 0 ≤ (wt_ga z791.2 125 (Int32.toNatClampNeg z791.1)).toInt by omega) (show (wt_ga z791.2 125 (Int32.toNatClampNeg z791.1)).toInt ≤ 9 by omega)
                  obtain ⟨σ895, eσ895⟩ : ∃ z : wt_St, z = wt_sa σ879 128 (Int32.toNatClampNeg z791.1) (wt_ga σ879 127 (Int32.toNatClampNeg z791.1)) := ⟨_, rfl⟩
                  rw [← eσ895]
                  have fσ895 := wt_fr_sa eσ895
                  have vσ895 := wt_ceq (wt_v_sa eσ895)
                  have bb896 := wt_bd (wt_ga σ879 127 (Int32.toNatClampNeg z791.1))
                  have g897 : 0 ≤ (wt_ga σ879 127 (Int32.toNatClampNeg z791.1)).toInt ∧ (wt_ga σ879 127 (Int32.toNatClampNeg z791.1)).toInt ≤ 3 := wt_R_ga rσ879 6 rfl 127 (by decide) (by decide) (Int32.toNatClampNeg z791.1)
                  have tt898 : (wt_ga σ879 127 (Int32.toNatClampNeg z791.1)).toInt = (wt_ga z791.2 127 (Int32.toNatClampNeg z791.1)).toInt := congrArg Int32.toInt (fσ879.2 127 (by (try dsimp only); omega) (Int32.toNatClampNeg z791.1))
                  have bb899 := wt_bd (wt_ga z791.2 127 (Int32.toNatClampNeg z791.1))
                  have g900 : 0 ≤ (wt_ga z791.2 127 (Int32.toNatClampNeg z791.1)).toInt ∧ (wt_ga z791.2 127 (Int32.toNatClampNeg z791.1)).toInt ≤ 3 := wt_R_ga l795 6 rfl 127 (by decide) (by decide) (Int32.toNatClampNeg z791.1)
                  have tt901 : (wt_ga z791.2 127 (Int32.toNatClampNeg z791.1)).toInt = (wt_ga σ784 127 (Int32.toNatClampNeg z791.1)).toInt := congrArg Int32.toInt (l793.2 127 (by (try dsimp only); omega) (Int32.toNatClampNeg z791.1))
                  have bb902 := wt_bd (wt_ga σ784 127 (Int32.toNatClampNeg z791.1))
                  have g903 : 0 ≤ (wt_ga σ784 127 (Int32.toNatClampNeg z791.1)).toInt ∧ (wt_ga σ784 127 (Int32.toNatClampNeg z791.1)).toInt ≤ 3 := wt_R_ga rσ784 6 rfl 127 (by decide) (by decide) (Int32.toNatClampNeg z791.1)
                  have tt904 : (wt_ga σ784 127 (Int32.toNatClampNeg z791.1)).toInt = (wt_ga σ780 127 (Int32.toNatClampNeg z791.1)).toInt := congrArg Int32.toInt (fσ784.2 127 (fun z => z) (Int32.toNatClampNeg z791.1))
                  have bb905 := wt_bd (wt_ga σ780 127 (Int32.toNatClampNeg z791.1))
                  have g906 : 0 ≤ (wt_ga σ780 127 (Int32.toNatClampNeg z791.1)).toInt ∧ (wt_ga σ780 127 (Int32.toNatClampNeg z791.1)).toInt ≤ 3 := wt_R_ga rσ780 6 rfl 127 (by decide) (by decide) (Int32.toNatClampNeg z791.1)
                  have tt907 : (wt_ga σ780 127 (Int32.toNatClampNeg z791.1)).toInt = (wt_ga σ773 127 (Int32.toNatClampNeg z791.1)).toInt := congrArg Int32.toInt (fσ780.2 127 (fun z => z) (Int32.toNatClampNeg z791.1))
                  have bb908 := wt_bd (wt_ga σ773 127 (Int32.toNatClampNeg z791.1))
                  have g909 : 0 ≤ (wt_ga σ773 127 (Int32.toNatClampNeg z791.1)).toInt ∧ (wt_ga σ773 127 (Int32.toNatClampNeg z791.1)).toInt ≤ 3 := wt_R_ga rσ773 6 rfl 127 (by decide) (by decide) (Int32.toNatClampNeg z791.1)
                  have tt910 : (wt_ga σ773 127 (Int32.toNatClampNeg z791.1)).toInt = (wt_ga z748 127 (Int32.toNatClampNeg z791.1)).toInt := congrArg Int32.toInt (fσ773.2 127 (fun z => z) (Int32.toNatClampNeg z791.1))
                  have bb911 := wt_bd (wt_ga z748 127 (Int32.toNatClampNeg z791.1))
                  have g912 : 0 ≤ (wt_ga z748 127 (Int32.toNatClampNeg z791.1)).toInt ∧ (wt_ga z748 127 (Int32.toNatClampNeg z791.1)).toInt ≤ 3 := wt_R_ga l751 6 rfl 127 (by decide) (by decide) (Int32.toNatClampNeg z791.1)
                  have rσ895 := wt_RI_in rσ879 eσ895 6 rfl (by decide) (by decide) (show 0 ≤ (wt_ga σ879 127 (Int32.toNatClampNeg z791.1)).toInt by omega) (show (wt_ga σ879 127 (Int32.toNatClampNeg z791.1)).toInt ≤ 3 by omega)
                  obtain ⟨σ913, eσ913⟩ : ∃ z : wt_St, z = wt_sa σ895 130 (Int32.toNatClampNeg z791.1) (wt_ga σ895 129 (Int32.toNatClampNeg z791.1)) := ⟨_, rfl⟩
                  rw [← eσ913]
                  have fσ913 := wt_fr_sa eσ913
                  have vσ913 := wt_ceq (wt_v_sa eσ913)
                  have bb914 := wt_bd (wt_ga σ895 129 (Int32.toNatClampNeg z791.1))
                  have tt915 : (wt_ga σ895 129 (Int32.toNatClampNeg z791.1)).toInt = (wt_ga σ879 129 (Int32.toNatClampNeg z791.1)).toInt := congrArg Int32.toInt (fσ895.2 129 (by (try dsimp only); omega) (Int32.toNatClampNeg z791.1))
                  have bb916 := wt_bd (wt_ga σ879 129 (Int32.toNatClampNeg z791.1))
                  have tt917 : (wt_ga σ879 129 (Int32.toNatClampNeg z791.1)).toInt = (wt_ga z791.2 129 (Int32.toNatClampNeg z791.1)).toInt := congrArg Int32.toInt (fσ879.2 129 (by (try dsimp only); omega) (Int32.toNatClampNeg z791.1))
                  have bb918 := wt_bd (wt_ga z791.2 129 (Int32.toNatClampNeg z791.1))
                  have tt919 : (wt_ga z791.2 129 (Int32.toNatClampNeg z791.1)).toInt = (wt_ga σ784 129 (Int32.toNatClampNeg z791.1)).toInt := congrArg Int32.toInt (l793.2 129 (by (try dsimp only); omega) (Int32.toNatClampNeg z791.1))
                  have bb920 := wt_bd (wt_ga σ784 129 (Int32.toNatClampNeg z791.1))
                  have tt921 : (wt_ga σ784 129 (Int32.toNatClampNeg z791.1)).toInt = (wt_ga σ780 129 (Int32.toNatClampNeg z791.1)).toInt := congrArg Int32.toInt (fσ784.2 129 (fun z => z) (Int32.toNatClampNeg z791.1))
                  have bb922 := wt_bd (wt_ga σ780 129 (Int32.toNatClampNeg z791.1))
                  have tt923 : (wt_ga σ780 129 (Int32.toNatClampNeg z791.1)).toInt = (wt_ga σ773 129 (Int32.toNatClampNeg z791.1)).toInt := congrArg Int32.toInt (fσ780.2 129 (fun z => z) (Int32.toNatClampNeg z791.1))
                  have bb924 := wt_bd (wt_ga σ773 129 (Int32.toNatClampNeg z791.1))
                  have tt925 : (wt_ga σ773 129 (Int32.toNatClampNeg z791.1)).toInt = (wt_ga z748 129 (Int32.toNatClampNeg z791.1)).toInt := congrArg Int32.toInt (fσ773.2 129 (fun z => z) (Int32.toNatClampNeg z791.1))
                  have bb926 := wt_bd (wt_ga z748 129 (Int32.toNatClampNeg z791.1))
                  have rσ913 := wt_RI_no rσ895 eσ913 130 131 (by decide) (by decide) (by decide)
                  refine wt_T_it (fun s : Int32 × wt_St => wt_fr (fun i k => False) (fun i => (193 ≤ i ∧ i < 253)) σ913 s.2 ∧ 0 ≤ (s.1).toInt ∧ wt_RI s.2) (fun s : Int32 × wt_St => ((9 : Int32).toInt - s.1.toInt + 0).toNat) (fun KK927 z928 I929 hKK927 => ?_) _ _ ?_ ?_
                  · skip
                    obtain ⟨l930, l931, l932⟩ := I929
                    unfold wp_md_tongue_B221
                    have k933 : (9 : Int32).toInt = 9 := by decide
                    have bb934 := wt_bd z928.1
                    refine wt_T_if (fun h935 => ?_) (fun h935 => ?_)
                    · skip
                      have c936 := wt_cle h935
                      have bb937 := wt_bd (wt_gf z928.2 108 28)
                      have g938 : 0 ≤ (wt_gf z928.2 108 28).toInt ∧ (wt_gf z928.2 108 28).toInt ≤ 60 := wt_R_gf l932 6 rfl
                      have tt939 : (wt_gf z928.2 108 28).toInt = (wt_gf σ913 108 28).toInt := congrArg Int32.toInt (l930.1 108 28 (fun z => z))
                      have bb940 := wt_bd (wt_gf σ913 108 28)
                      have g941 : 0 ≤ (wt_gf σ913 108 28).toInt ∧ (wt_gf σ913 108 28).toInt ≤ 60 := wt_R_gf rσ913 6 rfl
                      have tt942 : (wt_gf σ913 108 28).toInt = (wt_gf σ895 108 28).toInt := congrArg Int32.toInt (fσ913.1 108 28 (fun z => z))
                      have bb943 := wt_bd (wt_gf σ895 108 28)
                      have g944 : 0 ≤ (wt_gf σ895 108 28).toInt ∧ (wt_gf σ895 108 28).toInt ≤ 60 := wt_R_gf rσ895 6 rfl
                      have tt945 : (wt_gf σ895 108 28).toInt = (wt_gf σ879 108 28).toInt := congrArg Int32.toInt (fσ895.1 108 28 (fun z => z))
                      have bb946 := wt_bd (wt_gf σ879 108 28)
                      have g947 : 0 ≤ (wt_gf σ879 108 28).toInt ∧ (wt_gf σ879 108 28).toInt ≤ 60 := wt_R_gf rσ879 6 rfl
                      have tt948 : (wt_gf σ879 108 28).toInt = (wt_gf z791.2 108 28).toInt := congrArg Int32.toInt (fσ879.1 108 28 (fun z => z))
                      refine hKK790 _ ⟨(wt_fr.tr (wt_fr.tr (wt_fr.tr (wt_fr.tr (wt_fr.tr wt_fr.rf l793 (fun i k h => h.elim) (fun i h => by (try dsimp only at h); rcases h with h | h | h | h; exact Or.inl (by omega); exact Or.inr (Or.inl (by omega)); exact Or.inr (Or.inr (Or.inl (by omega))); exact Or.inr (Or.inr (Or.inr ((by omega)))))) fσ879 (fun i k h => h.elim) (fun i h => by (try dsimp only at h); exact Or.inl (by omega))) fσ895 (fun i k h => h.elim) (fun i h => by (try dsimp only at h); exact Or.inr (Or.inl (by omega)))) fσ913 (fun i k h => h.elim) (fun i h => by (try dsimp only at h); exact Or.inr (Or.inr (Or.inl (by omega))))) l930 (fun i k h => h.elim) (fun i h => by (try dsimp only at h); exact Or.inr (Or.inr (Or.inr ((by omega)))))), (wt_nn (B := wt_gf z791.2 108 28) (by omega) (by omega)), l932⟩ ?_
                      show ((wt_gf z928.2 108 28).toInt - (z791.1 + (1 : Int32)).toInt + 0).toNat < ((wt_gf z791.2 108 28).toInt - z791.1.toInt + 0).toNat
                      exact wt_mu (by omega) (by omega)
                    · skip
                      have c949 := wt_ncle h935
                      refine wt_T_gd (wt_ix (by omega) (by omega)) ?_
                      refine wt_T_gd (wt_ix (by omega) (by omega)) ?_
                      refine wt_T_gd (wt_ix (by omega) (by omega)) ?_
                      refine wt_T_gd (wt_ix (by omega) (by omega)) ?_
                      obtain ⟨σ950, eσ950⟩ : ∃ z : wt_St, z = wt_sa z928.2 (193 + (Int32.toNatClampNeg z791.1)) (Int32.toNatClampNeg z928.1) (wt_ga z928.2 (132 + (Int32.toNatClampNeg z791.1)) (Int32.toNatClampNeg z928.1)) := ⟨_, rfl⟩
                      rw [← eσ950]
                      have fσ950 := wt_fr_sa eσ950
                      have vσ950 := wt_ceq (wt_v_sa eσ950)
                      have bb951 := wt_tn z928.1
                      have bb952 := wt_bd (wt_ga z928.2 (132 + (Int32.toNatClampNeg z791.1)) (Int32.toNatClampNeg z928.1))
                      have g953 : 0 ≤ (wt_ga z928.2 (132 + (Int32.toNatClampNeg z791.1)) (Int32.toNatClampNeg z928.1)).toInt ∧ (wt_ga z928.2 (132 + (Int32.toNatClampNeg z791.1)) (Int32.toNatClampNeg z928.1)).toInt ≤ 25 := wt_R_ga l932 7 rfl (132 + (Int32.toNatClampNeg z791.1)) (show 132 ≤ 132 + (Int32.toNatClampNeg z791.1) by omega) (show 132 + (Int32.toNatClampNeg z791.1) < 192 by omega) (Int32.toNatClampNeg z928.1)
                      have tt954 : (wt_ga z928.2 (132 + (Int32.toNatClampNeg z791.1)) (Int32.toNatClampNeg z928.1)).toInt = (wt_ga σ913 (132 + (Int32.toNatClampNeg z791.1)) (Int32.toNatClampNeg z928.1)).toInt := congrArg Int32.toInt (l930.2 (132 + (Int32.toNatClampNeg z791.1)) (by (try dsimp only); omega) (Int32.toNatClampNeg z928.1))
                      have bb955 := wt_bd (wt_ga σ913 (132 + (Int32.toNatClampNeg z791.1)) (Int32.toNatClampNeg z928.1))
                      have g956 : 0 ≤ (wt_ga σ913 (132 + (Int32.toNatClampNeg z791.1)) (Int32.toNatClampNeg z928.1)).toInt ∧ (wt_ga σ913 (132 + (Int32.toNatClampNeg z791.1)) (Int32.toNatClampNeg z928.1)).toInt ≤ 25 := wt_R_ga rσ913 7 rfl (132 + (Int32.toNatClampNeg z791.1)) (show 132 ≤ 132 + (Int32.toNatClampNeg z791.1) by omega) (show 132 + (Int32.toNatClampNeg z791.1) < 192 by omega) (Int32.toNatClampNeg z928.1)
                      have tt957 : (wt_ga σ913 (132 + (Int32.toNatClampNeg z791.1)) (Int32.toNatClampNeg z928.1)).toInt = (wt_ga σ895 (132 + (Int32.toNatClampNeg z791.1)) (Int32.toNatClampNeg z928.1)).toInt := congrArg Int32.toInt (fσ913.2 (132 + (Int32.toNatClampNeg z791.1)) (by (try dsimp only); omega) (Int32.toNatClampNeg z928.1))
                      have bb958 := wt_bd (wt_ga σ895 (132 + (Int32.toNatClampNeg z791.1)) (Int32.toNatClampNeg z928.1))
                      have g959 : 0 ≤ (wt_ga σ895 (132 + (Int32.toNatClampNeg z791.1)) (Int32.toNatClampNeg z928.1)).toInt ∧ (wt_ga σ895 (132 + (Int32.toNatClampNeg z791.1)) (Int32.toNatClampNeg z928.1)).toInt ≤ 25 := wt_R_ga rσ895 7 rfl (132 + (Int32.toNatClampNeg z791.1)) (show 132 ≤ 132 + (Int32.toNatClampNeg z791.1) by omega) (show 132 + (Int32.toNatClampNeg z791.1) < 192 by omega) (Int32.toNatClampNeg z928.1)
                      have tt960 : (wt_ga σ895 (132 + (Int32.toNatClampNeg z791.1)) (Int32.toNatClampNeg z928.1)).toInt = (wt_ga σ879 (132 + (Int32.toNatClampNeg z791.1)) (Int32.toNatClampNeg z928.1)).toInt := congrArg Int32.toInt (fσ895.2 (132 + (Int32.toNatClampNeg z791.1)) (by (try dsimp only); omega) (Int32.toNatClampNeg z928.1))
                      have bb961 := wt_bd (wt_ga σ879 (132 + (Int32.toNatClampNeg z791.1)) (Int32.toNatClampNeg z928.1))
                      have g962 : 0 ≤ (wt_ga σ879 (132 + (Int32.toNatClampNeg z791.1)) (Int32.toNatClampNeg z928.1)).toInt ∧ (wt_ga σ879 (132 + (Int32.toNatClampNeg z791.1)) (Int32.toNatClampNeg z928.1)).toInt ≤ 25 := wt_R_ga rσ879 7 rfl (132 + (Int32.toNatClampNeg z791.1)) (show 132 ≤ 132 + (Int32.toNatClampNeg z791.1) by omega) (show 132 + (Int32.toNatClampNeg z791.1) < 192 by omega) (Int32.toNatClampNeg z928.1)
                      have tt963 : (wt_ga σ879 (132 + (Int32.toNatClampNeg z791.1)) (Int32.toNatClampNeg z928.1)).toInt = (wt_ga z791.2 (132 + (Int32.toNatClampNeg z791.1)) (Int32.toNatClampNeg z928.1)).toInt := congrArg Int32.toInt (fσ879.2 (132 + (Int32.toNatClampNeg z791.1)) (by (try dsimp only); omega) (Int32.toNatClampNeg z928.1))
                      have bb964 := wt_bd (wt_ga z791.2 (132 + (Int32.toNatClampNeg z791.1)) (Int32.toNatClampNeg z928.1))
                      have g965 : 0 ≤ (wt_ga z791.2 (132 + (Int32.toNatClampNeg z791.1)) (Int32.toNatClampNeg z928.1)).toInt ∧ (wt_ga z791.2 (132 + (Int32.toNatClampNeg z791.1)) (Int32.toNatClampNeg z928.1)).toInt ≤ 25 := wt_R_ga l795 7 rfl (132 + (Int32.toNatClampNeg z791.1)) (show 132 ≤ 132 + (Int32.toNatClampNeg z791.1) by omega) (show 132 + (Int32.toNatClampNeg z791.1) < 192 by omega) (Int32.toNatClampNeg z928.1)
                      have tt966 : (wt_ga z791.2 (132 + (Int32.toNatClampNeg z791.1)) (Int32.toNatClampNeg z928.1)).toInt = (wt_ga σ784 (132 + (Int32.toNatClampNeg z791.1)) (Int32.toNatClampNeg z928.1)).toInt := congrArg Int32.toInt (l793.2 (132 + (Int32.toNatClampNeg z791.1)) (by (try dsimp only); omega) (Int32.toNatClampNeg z928.1))
                      have bb967 := wt_bd (wt_ga σ784 (132 + (Int32.toNatClampNeg z791.1)) (Int32.toNatClampNeg z928.1))
                      have g968 : 0 ≤ (wt_ga σ784 (132 + (Int32.toNatClampNeg z791.1)) (Int32.toNatClampNeg z928.1)).toInt ∧ (wt_ga σ784 (132 + (Int32.toNatClampNeg z791.1)) (Int32.toNatClampNeg z928.1)).toInt ≤ 25 := wt_R_ga rσ784 7 rfl (132 + (Int32.toNatClampNeg z791.1)) (show 132 ≤ 132 + (Int32.toNatClampNeg z791.1) by omega) (show 132 + (Int32.toNatClampNeg z791.1) < 192 by omega) (Int32.toNatClampNeg z928.1)
                      have tt969 : (wt_ga σ784 (132 + (Int32.toNatClampNeg z791.1)) (Int32.toNatClampNeg z928.1)).toInt = (wt_ga σ780 (132 + (Int32.toNatClampNeg z791.1)) (Int32.toNatClampNeg z928.1)).toInt := congrArg Int32.toInt (fσ784.2 (132 + (Int32.toNatClampNeg z791.1)) (fun z => z) (Int32.toNatClampNeg z928.1))
                      have bb970 := wt_bd (wt_ga σ780 (132 + (Int32.toNatClampNeg z791.1)) (Int32.toNatClampNeg z928.1))
                      have g971 : 0 ≤ (wt_ga σ780 (132 + (Int32.toNatClampNeg z791.1)) (Int32.toNatClampNeg z928.1)).toInt ∧ (wt_ga σ780 (132 + (Int32.toNatClampNeg z791.1)) (Int32.toNatClampNeg z928.1)).toInt ≤ 25 := wt_R_ga rσ780 7 rfl (132 + (Int32.toNatClampNeg z791.1)) (show 132 ≤ 132 + (Int32.toNatClampNeg z791.1) by omega) (show 132 + (Int32.toNatClampNeg z791.1) < 192 by omega) (Int32.toNatClampNeg z928.1)
                      have tt972 : (wt_ga σ780 (132 + (Int32.toNatClampNeg z791.1)) (Int32.toNatClampNeg z928.1)).toInt = (wt_ga σ773 (132 + (Int32.toNatClampNeg z791.1)) (Int32.toNatClampNeg z928.1)).toInt := congrArg Int32.toInt (fσ780.2 (132 + (Int32.toNatClampNeg z791.1)) (fun z => z) (Int32.toNatClampNeg z928.1))
                      have bb973 := wt_bd (wt_ga σ773 (132 + (Int32.toNatClampNeg z791.1)) (Int32.toNatClampNeg z928.1))
                      have g974 : 0 ≤ (wt_ga σ773 (132 + (Int32.toNatClampNeg z791.1)) (Int32.toNatClampNeg z928.1)).toInt ∧ (wt_ga σ773 (132 + (Int32.toNatClampNeg z791.1)) (Int32.toNatClampNeg z928.1)).toInt ≤ 25 := wt_R_ga rσ773 7 rfl (132 + (Int32.toNatClampNeg z791.1)) (show 132 ≤ 132 + (Int32.toNatClampNeg z791.1) by omega) (show 132 + (Int32.toNatClampNeg z791.1) < 192 by omega) (Int32.toNatClampNeg z928.1)
                      have tt975 : (wt_ga σ773 (132 + (Int32.toNatClampNeg z791.1)) (Int32.toNatClampNeg z928.1)).toInt = (wt_ga z748 (132 + (Int32.toNatClampNeg z791.1)) (Int32.toNatClampNeg z928.1)).toInt := congrArg Int32.toInt (fσ773.2 (132 + (Int32.toNatClampNeg z791.1)) (fun z => z) (Int32.toNatClampNeg z928.1))
                      have bb976 := wt_bd (wt_ga z748 (132 + (Int32.toNatClampNeg z791.1)) (Int32.toNatClampNeg z928.1))
                      have g977 : 0 ≤ (wt_ga z748 (132 + (Int32.toNatClampNeg z791.1)) (Int32.toNatClampNeg z928.1)).toInt ∧ (wt_ga z748 (132 + (Int32.toNatClampNeg z791.1)) (Int32.toNatClampNeg z928.1)).toInt ≤ 25 := wt_R_ga l751 7 rfl (132 + (Int32.toNatClampNeg z791.1)) (show 132 ≤ 132 + (Int32.toNatClampNeg z791.1) by omega) (show 132 + (Int32.toNatClampNeg z791.1) < 192 by omega) (Int32.toNatClampNeg z928.1)
                      have rσ950 := wt_RI_in l932 eσ950 8 rfl (show 193 ≤ 193 + (Int32.toNatClampNeg z791.1) by omega) (show 193 + (Int32.toNatClampNeg z791.1) < 253 by omega) (show 0 ≤ (wt_ga z928.2 (132 + (Int32.toNatClampNeg z791.1)) (Int32.toNatClampNeg z928.1)).toInt by omega) (show (wt_ga z928.2 (132 + (Int32.toNatClampNeg z791.1)) (Int32.toNatClampNeg z928.1)).toInt ≤ 25 by omega)
                      refine hKK927 _ ⟨(wt_fr.tr (wt_fr.tr wt_fr.rf l930 (fun i k h => h.elim) (fun i h => by (try dsimp only at h); exact (by omega))) fσ950 (fun i k h => h.elim) (fun i h => by (try dsimp only at h); exact (by omega))), (wt_nn (B := (9 : Int32)) (by omega) (by omega)), rσ950⟩ ?_
                      show ((9 : Int32).toInt - (z928.1 + (1 : Int32)).toInt + 0).toNat < ((9 : Int32).toInt - z928.1.toInt + 0).toNat
                      exact wt_mu (by omega) (by omega)
                  · skip
                    have k978 : (9 : Int32).toInt = 9 := by decide
                    exact ⟨wt_fr.rf, (show 0 ≤ ((0 : Int32)).toInt by omega), rσ913⟩
                  · skip
                    have k979 : (9 : Int32).toInt = 9 := by decide
                    show ((9 : Int32).toInt - (0 : Int32).toInt + 0).toNat < n
                    omega
              · skip
                have bb980 := wt_bd (wt_gf σ784 108 28)
                have g981 : 0 ≤ (wt_gf σ784 108 28).toInt ∧ (wt_gf σ784 108 28).toInt ≤ 60 := wt_R_gf rσ784 6 rfl
                have tt982 : (wt_gf σ784 108 28).toInt = (wt_gf σ780 108 28).toInt := congrArg Int32.toInt (fσ784.1 108 28 (by (try dsimp only); omega))
                have bb983 := wt_bd (wt_gf σ780 108 28)
                have g984 : 0 ≤ (wt_gf σ780 108 28).toInt ∧ (wt_gf σ780 108 28).toInt ≤ 60 := wt_R_gf rσ780 6 rfl
                exact ⟨wt_fr.rf, (show 0 ≤ ((0 : Int32)).toInt by omega), rσ784⟩
              · skip
                have bb985 := wt_bd (wt_gf σ784 108 28)
                have g986 : 0 ≤ (wt_gf σ784 108 28).toInt ∧ (wt_gf σ784 108 28).toInt ≤ 60 := wt_R_gf rσ784 6 rfl
                have tt987 : (wt_gf σ784 108 28).toInt = (wt_gf σ780 108 28).toInt := congrArg Int32.toInt (fσ784.1 108 28 (by (try dsimp only); omega))
                have bb988 := wt_bd (wt_gf σ780 108 28)
                have g989 : 0 ≤ (wt_gf σ780 108 28).toInt ∧ (wt_gf σ780 108 28).toInt ≤ 60 := wt_R_gf rσ780 6 rfl
                show ((wt_gf σ784 108 28).toInt - (0 : Int32).toInt + 0).toNat < n
                omega
            · skip
              have c990 := wt_nceq h778
              refine wt_T_some ?_
              have k991 : (10 : Int32).toInt = 10 := by decide
              obtain ⟨j992, j992a, j992b⟩ := wt_subI (wt_gf σ773 108 5) (10 : Int32)
              have bb993 := wt_bd (wt_gf σ773 108 1)
              have g994 : 0 ≤ (wt_gf σ773 108 1).toInt ∧ (wt_gf σ773 108 1).toInt ≤ 500 := wt_R_gf rσ773 0 rfl
              have tt995 : (wt_gf σ773 108 1).toInt = (wt_gf z748 108 1).toInt := congrArg Int32.toInt (fσ773.1 108 1 (by (try dsimp only); omega))
              have bb996 := wt_bd (wt_gf z748 108 1)
              have g997 : 0 ≤ (wt_gf z748 108 1).toInt ∧ (wt_gf z748 108 1).toInt ≤ 500 := wt_R_gf l751 0 rfl
              have tt998 : (wt_gf z748 108 1).toInt = (wt_gf σ746 108 1).toInt := congrArg Int32.toInt (l750.1 108 1 (by (try dsimp only); omega))
              have bb999 := wt_bd (wt_gf σ746 108 1)
              have g1000 : 0 ≤ (wt_gf σ746 108 1).toInt ∧ (wt_gf σ746 108 1).toInt ≤ 500 := wt_R_gf rσ746 0 rfl
              have tt1001 : (wt_gf σ746 108 1).toInt = (wt_gf σ745 108 1).toInt := congrArg Int32.toInt (fσ746.1 108 1 (by (try dsimp only); omega))
              have bb1002 := wt_bd (wt_gf σ745 108 1)
              have g1003 : 0 ≤ (wt_gf σ745 108 1).toInt ∧ (wt_gf σ745 108 1).toInt ≤ 500 := wt_R_gf rσ745 0 rfl
              have tt1004 : (wt_gf σ745 108 1).toInt = (wt_gf r734 108 1).toInt := congrArg Int32.toInt (fσ745.1 108 1 (by (try dsimp only); omega))
              exact ⟨(wt_fr.tr (wt_fr.tr (wt_fr.tr (wt_fr.tr (wt_fr.tr (wt_fr.tr (wt_fr.tr wt_fr.rf fσ2 (fun i k h => by (try dsimp only at h); exact Or.inl (by omega)) (fun i h => h.elim)) f726 (fun i k h => by (try dsimp only at h); exact Or.inl (by omega)) (fun i h => h.elim)) f736 (fun i k h => by (try dsimp only at h); rcases h with h | h | h | h | h | h; exact Or.inr (Or.inl (by omega)); exact Or.inr (Or.inr (Or.inl (by omega))); exact Or.inr (Or.inr (Or.inr (Or.inl (by omega)))); exact Or.inr (Or.inr (Or.inr (Or.inr (Or.inl (by omega))))); exact Or.inr (Or.inr (Or.inr (Or.inr (Or.inr (Or.inl (by omega)))))); exact Or.inr (Or.inr (Or.inr (Or.inr (Or.inr (Or.inr (Or.inl (by omega)))))))) (fun i h => h.elim)) fσ745 (fun i k h => by (try dsimp only at h); exact Or.inr (Or.inr (Or.inr (Or.inr (Or.inr (Or.inr (Or.inr (Or.inl (by omega))))))))) (fun i h => h.elim)) fσ746 (fun i k h => by (try dsimp only at h); exact Or.inr (Or.inr (Or.inr (Or.inr (Or.inr (Or.inr (Or.inr (Or.inr (Or.inl (by omega)))))))))) (fun i h => h.elim)) l750 (fun i k h => by (try dsimp only at h); rcases h with h | h | h | h | h; exact Or.inr (Or.inr (Or.inr (Or.inl (by omega)))); exact Or.inr (Or.inr (Or.inr (Or.inr (Or.inl (by omega))))); exact Or.inr (Or.inr (Or.inr (Or.inr (Or.inr (Or.inl (by omega)))))); exact Or.inr (Or.inr (Or.inr (Or.inr (Or.inr (Or.inr (Or.inr (Or.inr (Or.inl (by omega))))))))); exact Or.inr (Or.inr (Or.inr (Or.inr (Or.inr (Or.inr (Or.inr (Or.inl (by omega))))))))) (fun i h => by (try dsimp only at h); rcases h with h | h | h | h; exact Or.inr (Or.inr (Or.inr (Or.inr (Or.inr (Or.inr (Or.inl (by omega))))))); exact Or.inr (Or.inr (Or.inr (Or.inr (Or.inr (Or.inr (Or.inr (Or.inl (by omega)))))))); exact Or.inr (Or.inr (Or.inr (Or.inr (Or.inr (Or.inr (Or.inr (Or.inr (Or.inl (by omega))))))))); exact Or.inr (Or.inr (Or.inr (Or.inr (Or.inr (Or.inr (Or.inr (Or.inr (Or.inr ((by omega)))))))))))) fσ773 (fun i k h => by (try dsimp only at h); exact Or.inr (Or.inr (Or.inr (Or.inr (Or.inr (Or.inr (Or.inr (Or.inr (Or.inr (Or.inl (by omega))))))))))) (fun i h => h.elim)), rσ773, (show ((x1.toInt < 0 ∨ (wt_gf σ 108 1).toInt < x1.toInt → (wt_gf σ773 108 1).toInt = (wt_gf σ 108 1).toInt) ∧ (0 ≤ x1.toInt ∧ x1.toInt ≤ (wt_gf σ 108 1).toInt → (wt_gf σ773 108 1).toInt = 0)) from by omega)⟩
          · skip
            have c1005 := wt_ncle h771
            refine wt_T_bi (wq_md_reads n hn (0 : Int32) z748 l751 (by omega) (by omega)) (fun r1006 h1007 => ?_)
            obtain ⟨f1008, ri1009, pp1010⟩ := h1007
            have bb1011 := wt_bd (wt_gf r1006 108 5)
            have g1012 : 0 ≤ (wt_gf r1006 108 5).toInt ∧ (wt_gf r1006 108 5).toInt ≤ 3 := wt_R_gf ri1009 3 rfl
            have bb1013 := wt_bd (wt_gf r1006 108 27)
            have g1014 : 0 ≤ (wt_gf r1006 108 27).toInt ∧ (wt_gf r1006 108 27).toInt ≤ 60 := wt_R_gf ri1009 5 rfl
            refine wt_T_bi (wq_md_blanks n hn r1006 ri1009) (fun r1015 h1016 => ?_)
            obtain ⟨f1017, ri1018, pp1019⟩ := h1016
            have bb1020 := wt_bd (wt_gf r1006 108 4)
            have g1021 : 0 ≤ (wt_gf r1006 108 4).toInt ∧ (wt_gf r1006 108 4).toInt ≤ 500 := wt_R_gf ri1009 2 rfl
            have bb1022 := wt_bd (wt_gf r1015 108 4)
            have g1023 : 0 ≤ (wt_gf r1015 108 4).toInt ∧ (wt_gf r1015 108 4).toInt ≤ 500 := wt_R_gf ri1018 2 rfl
            refine wt_T_it (fun s : Int32 × wt_St => wt_fr (fun i k => (i = 108 ∧ k = 4) ∨ (i = 108 ∧ k = 5) ∨ (i = 108 ∧ k = 6) ∨ (i = 108 ∧ k = 29) ∨ (i = 108 ∧ k = 27)) (fun i => i = 125 ∨ i = 127 ∨ i = 129 ∨ (132 ≤ i ∧ i < 192)) r1015 s.2 ∧ 1 ≤ s.1.toInt ∧ s.1.toInt ≤ 6 ∧ (s.1.toInt ≤ 5 ∨ (wt_gf s.2 108 5).toInt ≠ 0) ∧ (wt_gf z748 108 27).toInt ≤ (wt_gf s.2 108 27).toInt ∧ ((wt_gf s.2 108 5).toInt ≠ 0 ∨ (wt_gf z748 108 27).toInt < (wt_gf s.2 108 27).toInt) ∧ wt_RI s.2) (fun s : Int32 × wt_St => (6 - s.1.toInt).toNat) (fun KK1024 z1025 I1026 hKK1024 => ?_) _ _ ?_ ?_
            · skip
              obtain ⟨l1027, l1028, l1029, l1030, l1031, l1032, l1033⟩ := I1026
              unfold wp_md_tongue_B76
              have bb1034 := wt_bd (wt_gf z1025.2 108 5)
              have g1035 : 0 ≤ (wt_gf z1025.2 108 5).toInt ∧ (wt_gf z1025.2 108 5).toInt ≤ 3 := wt_R_gf l1033 3 rfl
              have bb1036 := wt_bd (wt_gf z1025.2 108 27)
              have g1037 : 0 ≤ (wt_gf z1025.2 108 27).toInt ∧ (wt_gf z1025.2 108 27).toInt ≤ 60 := wt_R_gf l1033 5 rfl
              have bb1038 := wt_bd z1025.1
              refine wt_T_if (fun h1039 => ?_) (fun h1039 => ?_)
              · skip
                have c1040 := wt_ceq h1039
                have bb1041 := wt_bd (wt_gf z1025.2 108 4)
                have g1042 : 0 ≤ (wt_gf z1025.2 108 4).toInt ∧ (wt_gf z1025.2 108 4).toInt ≤ 500 := wt_R_gf l1033 2 rfl
                refine wt_T_bi (wq_md_byteAt n hn (wt_gf z1025.2 108 4) z1025.2 l1033 (by omega)) (fun r1043 h1044 => ?_)
                obtain ⟨e1045, pp1046⟩ := h1044
                have bb1047 := wt_bd r1043.1
                rw [e1045]
                have bb1048 := wt_bd (wt_gf z1025.2 108 2)
                have g1049 : 0 ≤ (wt_gf z1025.2 108 2).toInt ∧ (wt_gf z1025.2 108 2).toInt ≤ 500 := wt_R_gf l1033 1 rfl
                have tt1050 : (wt_gf z1025.2 108 2).toInt = (wt_gf r1015 108 2).toInt := congrArg Int32.toInt (l1027.1 108 2 (by (try dsimp only); omega))
                have bb1051 := wt_bd (wt_gf r1015 108 2)
                have g1052 : 0 ≤ (wt_gf r1015 108 2).toInt ∧ (wt_gf r1015 108 2).toInt ≤ 500 := wt_R_gf ri1018 1 rfl
                have tt1053 : (wt_gf r1015 108 2).toInt = (wt_gf r1006 108 2).toInt := congrArg Int32.toInt (f1017.1 108 2 (by (try dsimp only); omega))
                have bb1054 := wt_bd (wt_gf r1006 108 2)
                have g1055 : 0 ≤ (wt_gf r1006 108 2).toInt ∧ (wt_gf r1006 108 2).toInt ≤ 500 := wt_R_gf ri1009 1 rfl
                have tt1056 : (wt_gf r1006 108 2).toInt = (wt_gf z748 108 2).toInt := congrArg Int32.toInt (f1008.1 108 2 (by (try dsimp only); omega))
                have bb1057 := wt_tn (wt_gf z1025.2 108 4)
                have bb1058 := wt_bd (wt_ga z1025.2 109 (Int32.toNatClampNeg (wt_gf z1025.2 108 4)))
                have tt1059 : (wt_ga z1025.2 109 (Int32.toNatClampNeg (wt_gf z1025.2 108 4))).toInt = (wt_ga r1015 109 (Int32.toNatClampNeg (wt_gf z1025.2 108 4))).toInt := congrArg Int32.toInt (l1027.2 109 (by (try dsimp only); omega) (Int32.toNatClampNeg (wt_gf z1025.2 108 4)))
                have bb1060 := wt_bd (wt_ga r1015 109 (Int32.toNatClampNeg (wt_gf z1025.2 108 4)))
                have tt1061 : (wt_ga r1015 109 (Int32.toNatClampNeg (wt_gf z1025.2 108 4))).toInt = (wt_ga r1006 109 (Int32.toNatClampNeg (wt_gf z1025.2 108 4))).toInt := congrArg Int32.toInt (f1017.2 109 (fun z => z) (Int32.toNatClampNeg (wt_gf z1025.2 108 4)))
                have bb1062 := wt_bd (wt_ga r1006 109 (Int32.toNatClampNeg (wt_gf z1025.2 108 4)))
                have tt1063 : (wt_ga r1006 109 (Int32.toNatClampNeg (wt_gf z1025.2 108 4))).toInt = (wt_ga z748 109 (Int32.toNatClampNeg (wt_gf z1025.2 108 4))).toInt := congrArg Int32.toInt (f1008.2 109 (by (try dsimp only); omega) (Int32.toNatClampNeg (wt_gf z1025.2 108 4)))
                have bb1064 := wt_bd (wt_ga z748 109 (Int32.toNatClampNeg (wt_gf z1025.2 108 4)))
                have tt1065 : (wt_ga z748 109 (Int32.toNatClampNeg (wt_gf z1025.2 108 4))).toInt = (wt_ga σ746 109 (Int32.toNatClampNeg (wt_gf z1025.2 108 4))).toInt := congrArg Int32.toInt (l750.2 109 (by (try dsimp only); omega) (Int32.toNatClampNeg (wt_gf z1025.2 108 4)))
                have bb1066 := wt_bd (wt_ga σ746 109 (Int32.toNatClampNeg (wt_gf z1025.2 108 4)))
                have tt1067 : (wt_ga σ746 109 (Int32.toNatClampNeg (wt_gf z1025.2 108 4))).toInt = (wt_ga σ745 109 (Int32.toNatClampNeg (wt_gf z1025.2 108 4))).toInt := congrArg Int32.toInt (fσ746.2 109 (fun z => z) (Int32.toNatClampNeg (wt_gf z1025.2 108 4)))
                have bb1068 := wt_bd (wt_ga σ745 109 (Int32.toNatClampNeg (wt_gf z1025.2 108 4)))
                have tt1069 : (wt_ga σ745 109 (Int32.toNatClampNeg (wt_gf z1025.2 108 4))).toInt = (wt_ga r734 109 (Int32.toNatClampNeg (wt_gf z1025.2 108 4))).toInt := congrArg Int32.toInt (fσ745.2 109 (fun z => z) (Int32.toNatClampNeg (wt_gf z1025.2 108 4)))
                have bb1070 := wt_bd (wt_ga r734 109 (Int32.toNatClampNeg (wt_gf z1025.2 108 4)))
                have tt1071 : (wt_ga r734 109 (Int32.toNatClampNeg (wt_gf z1025.2 108 4))).toInt = (wt_ga r724.2 109 (Int32.toNatClampNeg (wt_gf z1025.2 108 4))).toInt := congrArg Int32.toInt (f736.2 109 (fun z => z) (Int32.toNatClampNeg (wt_gf z1025.2 108 4)))
                have bb1072 := wt_bd (wt_ga r724.2 109 (Int32.toNatClampNeg (wt_gf z1025.2 108 4)))
                have tt1073 : (wt_ga r724.2 109 (Int32.toNatClampNeg (wt_gf z1025.2 108 4))).toInt = (wt_ga σ2 109 (Int32.toNatClampNeg (wt_gf z1025.2 108 4))).toInt := congrArg Int32.toInt (f726.2 109 (fun z => z) (Int32.toNatClampNeg (wt_gf z1025.2 108 4)))
                have bb1074 := wt_bd (wt_ga σ2 109 (Int32.toNatClampNeg (wt_gf z1025.2 108 4)))
                have tt1075 : (wt_ga σ2 109 (Int32.toNatClampNeg (wt_gf z1025.2 108 4))).toInt = (wt_ga σ 109 (Int32.toNatClampNeg (wt_gf z1025.2 108 4))).toInt := congrArg Int32.toInt (fσ2.2 109 (fun z => z) (Int32.toNatClampNeg (wt_gf z1025.2 108 4)))
                have bb1076 := wt_bd (wt_ga σ 109 (Int32.toNatClampNeg (wt_gf z1025.2 108 4)))
                have k1077 : (44 : Int32).toInt = 44 := by decide
                refine wt_T_if (fun h1078 => ?_) (fun h1078 => ?_)
                · skip
                  have c1079 := wt_ceq h1078
                  obtain ⟨σ1080, eσ1080⟩ : ∃ z : wt_St, z = wt_sf z1025.2 108 4 ((wt_gf z1025.2 108 4) + (1 : Int32)) := ⟨_, rfl⟩
                  rw [← eσ1080]
                  have fσ1080 := wt_fr_sf eσ1080
                  have vσ1080 := wt_ceq (wt_v_sf eσ1080)
                  obtain ⟨j1081, j1081a, j1081b⟩ := wt_addI (wt_gf z1025.2 108 4) (1 : Int32)
                  have rσ1080 := wt_RI_fin l1033 eσ1080 2 rfl rfl (show 0 ≤ ((wt_gf z1025.2 108 4) + (1 : Int32)).toInt by omega) (show ((wt_gf z1025.2 108 4) + (1 : Int32)).toInt ≤ 500 by omega)
                  refine wt_T_bi (wq_md_reads n hn z1025.1 σ1080 rσ1080 (by omega) (by omega)) (fun r1082 h1083 => ?_)
                  obtain ⟨f1084, ri1085, pp1086⟩ := h1083
                  have bb1087 := wt_bd (wt_gf r1082 108 5)
                  have g1088 : 0 ≤ (wt_gf r1082 108 5).toInt ∧ (wt_gf r1082 108 5).toInt ≤ 3 := wt_R_gf ri1085 3 rfl
                  have bb1089 := wt_bd (wt_gf σ1080 108 27)
                  have g1090 : 0 ≤ (wt_gf σ1080 108 27).toInt ∧ (wt_gf σ1080 108 27).toInt ≤ 60 := wt_R_gf rσ1080 5 rfl
                  have tt1091 : (wt_gf σ1080 108 27).toInt = (wt_gf z1025.2 108 27).toInt := congrArg Int32.toInt (fσ1080.1 108 27 (by (try dsimp only); omega))
                  have bb1092 := wt_bd (wt_gf r1082 108 27)
                  have g1093 : 0 ≤ (wt_gf r1082 108 27).toInt ∧ (wt_gf r1082 108 27).toInt ≤ 60 := wt_R_gf ri1085 5 rfl
                  refine wt_T_bi (wq_md_blanks n hn r1082 ri1085) (fun r1094 h1095 => ?_)
                  obtain ⟨f1096, ri1097, pp1098⟩ := h1095
                  have bb1099 := wt_bd (wt_gf r1082 108 4)
                  have g1100 : 0 ≤ (wt_gf r1082 108 4).toInt ∧ (wt_gf r1082 108 4).toInt ≤ 500 := wt_R_gf ri1085 2 rfl
                  have bb1101 := wt_bd (wt_gf r1094 108 4)
                  have g1102 : 0 ≤ (wt_gf r1094 108 4).toInt ∧ (wt_gf r1094 108 4).toInt ≤ 500 := wt_R_gf ri1097 2 rfl
                  obtain ⟨j1103, j1103a, j1103b⟩ := wt_addI z1025.1 (1 : Int32)
                  have bb1104 := wt_bd (wt_gf r1094 108 5)
                  have g1105 : 0 ≤ (wt_gf r1094 108 5).toInt ∧ (wt_gf r1094 108 5).toInt ≤ 3 := wt_R_gf ri1097 3 rfl
                  have tt1106 : (wt_gf r1094 108 5).toInt = (wt_gf r1082 108 5).toInt := congrArg Int32.toInt (f1096.1 108 5 (by (try dsimp only); omega))
                  have bb1107 := wt_bd (wt_gf r1094 108 27)
                  have g1108 : 0 ≤ (wt_gf r1094 108 27).toInt ∧ (wt_gf r1094 108 27).toInt ≤ 60 := wt_R_gf ri1097 5 rfl
                  have tt1109 : (wt_gf r1094 108 27).toInt = (wt_gf r1082 108 27).toInt := congrArg Int32.toInt (f1096.1 108 27 (by (try dsimp only); omega))
                  refine hKK1024 _ ⟨(wt_fr.tr (wt_fr.tr (wt_fr.tr (wt_fr.tr wt_fr.rf l1027 (fun i k h => by (try dsimp only at h); rcases h with h | h | h | h | h; exact Or.inl (by omega); exact Or.inr (Or.inl (by omega)); exact Or.inr (Or.inr (Or.inl (by omega))); exact Or.inr (Or.inr (Or.inr (Or.inl (by omega)))); exact Or.inr (Or.inr (Or.inr (Or.inr ((by omega)))))) (fun i h => by (try dsimp only at h); rcases h with h | h | h | h; exact Or.inl (by omega); exact Or.inr (Or.inl (by omega)); exact Or.inr (Or.inr (Or.inl (by omega))); exact Or.inr (Or.inr (Or.inr ((by omega)))))) fσ1080 (fun i k h => by (try dsimp only at h); exact Or.inl (by omega)) (fun i h => h.elim)) f1084 (fun i k h => by (try dsimp only at h); rcases h with h | h | h | h | h; exact Or.inl (by omega); exact Or.inr (Or.inl (by omega)); exact Or.inr (Or.inr (Or.inl (by omega))); exact Or.inr (Or.inr (Or.inr (Or.inl (by omega)))); exact Or.inr (Or.inr (Or.inr (Or.inr ((by omega)))))) (fun i h => by (try dsimp only at h); rcases h with h | h | h | h; exact Or.inl (by omega); exact Or.inr (Or.inl (by omega)); exact Or.inr (Or.inr (Or.inl (by omega))); exact Or.inr (Or.inr (Or.inr ((by omega)))))) f1096 (fun i k h => by (try dsimp only at h); exact Or.inl (by omega)) (fun i h => h.elim)), (show 1 ≤ (z1025.1 + (1 : Int32)).toInt by omega), (show (z1025.1 + (1 : Int32)).toInt ≤ 6 by omega), (show ((z1025.1 + (1 : Int32)).toInt ≤ 5 ∨ (wt_gf r1094 108 5).toInt ≠ 0) by omega), (show (wt_gf z748 108 27).toInt ≤ (wt_gf r1094 108 27).toInt by omega), (show ((wt_gf r1094 108 5).toInt ≠ 0 ∨ (wt_gf z748 108 27).toInt < (wt_gf r1094 108 27).toInt) by omega), ri1097⟩ ?_
                  show (6 - (z1025.1 + (1 : Int32)).toInt).toNat < (6 - z1025.1.toInt).toNat
                  omega
                · skip
                  have c1110 := wt_nceq h1078
                  unfold wp_md_tongue_B121
                  have k1111 : (59 : Int32).toInt = 59 := by decide
                  refine wt_T_bi (wq_md_closes n hn (59 : Int32) z1025.2 l1033 (by omega)) (fun r1112 h1113 => ?_)
                  obtain ⟨f1114, ri1115, pp1116⟩ := h1113
                  have bb1117 := wt_bd (wt_gf r1112 108 5)
                  have g1118 : 0 ≤ (wt_gf r1112 108 5).toInt ∧ (wt_gf r1112 108 5).toInt ≤ 3 := wt_R_gf ri1115 3 rfl
                  refine wt_T_bi (wq_md_blanks n hn r1112 ri1115) (fun r1119 h1120 => ?_)
                  obtain ⟨f1121, ri1122, pp1123⟩ := h1120
                  have bb1124 := wt_bd (wt_gf r1112 108 4)
                  have g1125 : 0 ≤ (wt_gf r1112 108 4).toInt ∧ (wt_gf r1112 108 4).toInt ≤ 500 := wt_R_gf ri1115 2 rfl
                  have bb1126 := wt_bd (wt_gf r1119 108 4)
                  have g1127 : 0 ≤ (wt_gf r1119 108 4).toInt ∧ (wt_gf r1119 108 4).toInt ≤ 500 := wt_R_gf ri1122 2 rfl
                  have bb1128 := wt_bd (wt_gf r1119 108 27)
                  have g1129 : 0 ≤ (wt_gf r1119 108 27).toInt ∧ (wt_gf r1119 108 27).toInt ≤ 60 := wt_R_gf ri1122 5 rfl
                  have tt1130 : (wt_gf r1119 108 27).toInt = (wt_gf r1112 108 27).toInt := congrArg Int32.toInt (f1121.1 108 27 (by (try dsimp only); omega))
                  have bb1131 := wt_bd (wt_gf r1112 108 27)
                  have g1132 : 0 ≤ (wt_gf r1112 108 27).toInt ∧ (wt_gf r1112 108 27).toInt ≤ 60 := wt_R_gf ri1115 5 rfl
                  have tt1133 : (wt_gf r1112 108 27).toInt = (wt_gf z1025.2 108 27).toInt := congrArg Int32.toInt (f1114.1 108 27 (by (try dsimp only); omega))
                  have bb1134 := wt_bd (wt_gf r1119 108 5)
                  have g1135 : 0 ≤ (wt_gf r1119 108 5).toInt ∧ (wt_gf r1119 108 5).toInt ≤ 3 := wt_R_gf ri1122 3 rfl
                  have tt1136 : (wt_gf r1119 108 5).toInt = (wt_gf r1112 108 5).toInt := congrArg Int32.toInt (f1121.1 108 5 (by (try dsimp only); omega))
                  refine hKK747 _ ⟨(wt_fr.tr (wt_fr.tr (wt_fr.tr (wt_fr.tr (wt_fr.tr (wt_fr.tr wt_fr.rf l750 (fun i k h => by (try dsimp only at h); rcases h with h | h | h | h | h; exact Or.inl (by omega); exact Or.inr (Or.inl (by omega)); exact Or.inr (Or.inr (Or.inl (by omega))); exact Or.inr (Or.inr (Or.inr (Or.inl (by omega)))); exact Or.inr (Or.inr (Or.inr (Or.inr ((by omega)))))) (fun i h => by (try dsimp only at h); rcases h with h | h | h | h; exact Or.inl (by omega); exact Or.inr (Or.inl (by omega)); exact Or.inr (Or.inr (Or.inl (by omega))); exact Or.inr (Or.inr (Or.inr ((by omega)))))) f1008 (fun i k h => by (try dsimp only at h); rcases h with h | h | h | h | h; exact Or.inl (by omega); exact Or.inr (Or.inl (by omega)); exact Or.inr (Or.inr (Or.inl (by omega))); exact Or.inr (Or.inr (Or.inr (Or.inl (by omega)))); exact Or.inr (Or.inr (Or.inr (Or.inr ((by omega)))))) (fun i h => by (try dsimp only at h); rcases h with h | h | h | h; exact Or.inl (by omega); exact Or.inr (Or.inl (by omega)); exact Or.inr (Or.inr (Or.inl (by omega))); exact Or.inr (Or.inr (Or.inr ((by omega)))))) f1017 (fun i k h => by (try dsimp only at h); exact Or.inl (by omega)) (fun i h => h.elim)) l1027 (fun i k h => by (try dsimp only at h); rcases h with h | h | h | h | h; exact Or.inl (by omega); exact Or.inr (Or.inl (by omega)); exact Or.inr (Or.inr (Or.inl (by omega))); exact Or.inr (Or.inr (Or.inr (Or.inl (by omega)))); exact Or.inr (Or.inr (Or.inr (Or.inr ((by omega)))))) (fun i h => by (try dsimp only at h); rcases h with h | h | h | h; exact Or.inl (by omega); exact Or.inr (Or.inl (by omega)); exact Or.inr (Or.inr (Or.inl (by omega))); exact Or.inr (Or.inr (Or.inr ((by omega)))))) f1114 (fun i k h => by (try dsimp only at h); rcases h with h | h | h; exact Or.inl (by omega); exact Or.inr (Or.inl (by omega)); exact Or.inr (Or.inr (Or.inl (by omega)))) (fun i h => h.elim)) f1121 (fun i k h => by (try dsimp only at h); exact Or.inl (by omega)) (fun i h => h.elim)), ri1122⟩ ?_
                  show (4 * (60 - (wt_gf r1119 108 27).toInt) + 3 - (wt_gf r1119 108 5).toInt).toNat < (4 * (60 - (wt_gf z748 108 27).toInt) + 3 - (wt_gf z748 108 5).toInt).toNat
                  omega
              · skip
                have c1137 := wt_nceq h1039
                unfold wp_md_tongue_B121
                have k1138 : (59 : Int32).toInt = 59 := by decide
                refine wt_T_bi (wq_md_closes n hn (59 : Int32) z1025.2 l1033 (by omega)) (fun r1139 h1140 => ?_)
                obtain ⟨f1141, ri1142, pp1143⟩ := h1140
                have bb1144 := wt_bd (wt_gf r1139 108 5)
                have g1145 : 0 ≤ (wt_gf r1139 108 5).toInt ∧ (wt_gf r1139 108 5).toInt ≤ 3 := wt_R_gf ri1142 3 rfl
                refine wt_T_bi (wq_md_blanks n hn r1139 ri1142) (fun r1146 h1147 => ?_)
                obtain ⟨f1148, ri1149, pp1150⟩ := h1147
                have bb1151 := wt_bd (wt_gf r1139 108 4)
                have g1152 : 0 ≤ (wt_gf r1139 108 4).toInt ∧ (wt_gf r1139 108 4).toInt ≤ 500 := wt_R_gf ri1142 2 rfl
                have bb1153 := wt_bd (wt_gf r1146 108 4)
                have g1154 : 0 ≤ (wt_gf r1146 108 4).toInt ∧ (wt_gf r1146 108 4).toInt ≤ 500 := wt_R_gf ri1149 2 rfl
                have bb1155 := wt_bd (wt_gf r1146 108 27)
                have g1156 : 0 ≤ (wt_gf r1146 108 27).toInt ∧ (wt_gf r1146 108 27).toInt ≤ 60 := wt_R_gf ri1149 5 rfl
                have tt1157 : (wt_gf r1146 108 27).toInt = (wt_gf r1139 108 27).toInt := congrArg Int32.toInt (f1148.1 108 27 (by (try dsimp only); omega))
                have bb1158 := wt_bd (wt_gf r1139 108 27)
                have g1159 : 0 ≤ (wt_gf r1139 108 27).toInt ∧ (wt_gf r1139 108 27).toInt ≤ 60 := wt_R_gf ri1142 5 rfl
                have tt1160 : (wt_gf r1139 108 27).toInt = (wt_gf z1025.2 108 27).toInt := congrArg Int32.toInt (f1141.1 108 27 (by (try dsimp only); omega))
                have bb1161 := wt_bd (wt_gf r1146 108 5)
                have g1162 : 0 ≤ (wt_gf r1146 108 5).toInt ∧ (wt_gf r1146 108 5).toInt ≤ 3 := wt_R_gf ri1149 3 rfl
                have tt1163 : (wt_gf r1146 108 5).toInt = (wt_gf r1139 108 5).toInt := congrArg Int32.toInt (f1148.1 108 5 (by (try dsimp only); omega))
                refine hKK747 _ ⟨(wt_fr.tr (wt_fr.tr (wt_fr.tr (wt_fr.tr (wt_fr.tr (wt_fr.tr wt_fr.rf l750 (fun i k h => by (try dsimp only at h); rcases h with h | h | h | h | h; exact Or.inl (by omega); exact Or.inr (Or.inl (by omega)); exact Or.inr (Or.inr (Or.inl (by omega))); exact Or.inr (Or.inr (Or.inr (Or.inl (by omega)))); exact Or.inr (Or.inr (Or.inr (Or.inr ((by omega)))))) (fun i h => by (try dsimp only at h); rcases h with h | h | h | h; exact Or.inl (by omega); exact Or.inr (Or.inl (by omega)); exact Or.inr (Or.inr (Or.inl (by omega))); exact Or.inr (Or.inr (Or.inr ((by omega)))))) f1008 (fun i k h => by (try dsimp only at h); rcases h with h | h | h | h | h; exact Or.inl (by omega); exact Or.inr (Or.inl (by omega)); exact Or.inr (Or.inr (Or.inl (by omega))); exact Or.inr (Or.inr (Or.inr (Or.inl (by omega)))); exact Or.inr (Or.inr (Or.inr (Or.inr ((by omega)))))) (fun i h => by (try dsimp only at h); rcases h with h | h | h | h; exact Or.inl (by omega); exact Or.inr (Or.inl (by omega)); exact Or.inr (Or.inr (Or.inl (by omega))); exact Or.inr (Or.inr (Or.inr ((by omega)))))) f1017 (fun i k h => by (try dsimp only at h); exact Or.inl (by omega)) (fun i h => h.elim)) l1027 (fun i k h => by (try dsimp only at h); rcases h with h | h | h | h | h; exact Or.inl (by omega); exact Or.inr (Or.inl (by omega)); exact Or.inr (Or.inr (Or.inl (by omega))); exact Or.inr (Or.inr (Or.inr (Or.inl (by omega)))); exact Or.inr (Or.inr (Or.inr (Or.inr ((by omega)))))) (fun i h => by (try dsimp only at h); rcases h with h | h | h | h; exact Or.inl (by omega); exact Or.inr (Or.inl (by omega)); exact Or.inr (Or.inr (Or.inl (by omega))); exact Or.inr (Or.inr (Or.inr ((by omega)))))) f1141 (fun i k h => by (try dsimp only at h); rcases h with h | h | h; exact Or.inl (by omega); exact Or.inr (Or.inl (by omega)); exact Or.inr (Or.inr (Or.inl (by omega)))) (fun i h => h.elim)) f1148 (fun i k h => by (try dsimp only at h); exact Or.inl (by omega)) (fun i h => h.elim)), ri1149⟩ ?_
                show (4 * (60 - (wt_gf r1146 108 27).toInt) + 3 - (wt_gf r1146 108 5).toInt).toNat < (4 * (60 - (wt_gf z748 108 27).toInt) + 3 - (wt_gf z748 108 5).toInt).toNat
                omega
            · skip
              have bb1164 := wt_bd (wt_gf r1015 108 5)
              have g1165 : 0 ≤ (wt_gf r1015 108 5).toInt ∧ (wt_gf r1015 108 5).toInt ≤ 3 := wt_R_gf ri1018 3 rfl
              have tt1166 : (wt_gf r1015 108 5).toInt = (wt_gf r1006 108 5).toInt := congrArg Int32.toInt (f1017.1 108 5 (by (try dsimp only); omega))
              have bb1167 := wt_bd (wt_gf r1015 108 27)
              have g1168 : 0 ≤ (wt_gf r1015 108 27).toInt ∧ (wt_gf r1015 108 27).toInt ≤ 60 := wt_R_gf ri1018 5 rfl
              have tt1169 : (wt_gf r1015 108 27).toInt = (wt_gf r1006 108 27).toInt := congrArg Int32.toInt (f1017.1 108 27 (by (try dsimp only); omega))
              exact ⟨wt_fr.rf, (show 1 ≤ (1 : Int32).toInt by omega), (show (1 : Int32).toInt ≤ 6 by omega), (show ((1 : Int32).toInt ≤ 5 ∨ (wt_gf r1015 108 5).toInt ≠ 0) by omega), (show (wt_gf z748 108 27).toInt ≤ (wt_gf r1015 108 27).toInt by omega), (show ((wt_gf r1015 108 5).toInt ≠ 0 ∨ (wt_gf z748 108 27).toInt < (wt_gf r1015 108 27).toInt) by omega), ri1018⟩
            · skip
              show (6 - (1 : Int32).toInt).toNat < n
              omega
        · skip
          have c1170 := wt_nceq h756
          unfold wp_md_tongue_B134
          obtain ⟨σ1171, eσ1171⟩ : ∃ z : wt_St, z = wt_sf z748 108 3 (wt_gf z748 108 6) := ⟨_, rfl⟩
          rw [← eσ1171]
          have fσ1171 := wt_fr_sf eσ1171
          have vσ1171 := wt_ceq (wt_v_sf eσ1171)
          have bb1172 := wt_bd (wt_gf z748 108 6)
          have rσ1171 := wt_RI_fno l751 eσ1171 (Or.inr (by decide))
          have bb1173 := wt_bd (wt_gf σ1171 108 5)
          have g1174 : 0 ≤ (wt_gf σ1171 108 5).toInt ∧ (wt_gf σ1171 108 5).toInt ≤ 3 := wt_R_gf rσ1171 3 rfl
          have tt1175 : (wt_gf σ1171 108 5).toInt = (wt_gf z748 108 5).toInt := congrArg Int32.toInt (fσ1171.1 108 5 (by (try dsimp only); omega))
          refine wt_T_if (fun h1176 => ?_) (fun h1176 => ?_)
          · skip
            have c1177 := wt_ceq h1176
            obtain ⟨σ1178, eσ1178⟩ : ∃ z : wt_St, z = wt_sf σ1171 108 28 (wt_gf σ1171 108 27) := ⟨_, rfl⟩
            rw [← eσ1178]
            have fσ1178 := wt_fr_sf eσ1178
            have vσ1178 := wt_ceq (wt_v_sf eσ1178)
            have bb1179 := wt_bd (wt_gf σ1171 108 27)
            have g1180 : 0 ≤ (wt_gf σ1171 108 27).toInt ∧ (wt_gf σ1171 108 27).toInt ≤ 60 := wt_R_gf rσ1171 5 rfl
            have tt1181 : (wt_gf σ1171 108 27).toInt = (wt_gf z748 108 27).toInt := congrArg Int32.toInt (fσ1171.1 108 27 (by (try dsimp only); omega))
            have rσ1178 := wt_RI_fin rσ1171 eσ1178 6 rfl rfl (show 0 ≤ (wt_gf σ1171 108 27).toInt by omega) (show (wt_gf σ1171 108 27).toInt ≤ 60 by omega)
            obtain ⟨σ1182, eσ1182⟩ : ∃ z : wt_St, z = wt_sf σ1178 108 30 (wt_gf σ1178 108 29) := ⟨_, rfl⟩
            rw [← eσ1182]
            have fσ1182 := wt_fr_sf eσ1182
            have vσ1182 := wt_ceq (wt_v_sf eσ1182)
            have bb1183 := wt_bd (wt_gf σ1178 108 29)
            have tt1184 : (wt_gf σ1178 108 29).toInt = (wt_gf σ1171 108 29).toInt := congrArg Int32.toInt (fσ1178.1 108 29 (by (try dsimp only); omega))
            have bb1185 := wt_bd (wt_gf σ1171 108 29)
            have tt1186 : (wt_gf σ1171 108 29).toInt = (wt_gf z748 108 29).toInt := congrArg Int32.toInt (fσ1171.1 108 29 (by (try dsimp only); omega))
            have bb1187 := wt_bd (wt_gf z748 108 29)
            have rσ1182 := wt_RI_fno rσ1178 eσ1182 (Or.inr (by decide))
            refine wt_T_it (fun s : Int32 × wt_St => wt_fr (fun i k => False) (fun i => i = 126 ∨ i = 128 ∨ i = 130 ∨ (193 ≤ i ∧ i < 253)) σ1182 s.2 ∧ 0 ≤ (s.1).toInt ∧ wt_RI s.2) (fun s : Int32 × wt_St => ((wt_gf s.2 108 28).toInt - s.1.toInt + 0).toNat) (fun KK1188 z1189 I1190 hKK1188 => ?_) _ _ ?_ ?_
            · skip
              obtain ⟨l1191, l1192, l1193⟩ := I1190
              unfold wp_md_tongue_B175
              have bb1194 := wt_bd (wt_gf z1189.2 108 28)
              have g1195 : 0 ≤ (wt_gf z1189.2 108 28).toInt ∧ (wt_gf z1189.2 108 28).toInt ≤ 60 := wt_R_gf l1193 6 rfl
              have tt1196 : (wt_gf z1189.2 108 28).toInt = (wt_gf σ1182 108 28).toInt := congrArg Int32.toInt (l1191.1 108 28 (fun z => z))
              have bb1197 := wt_bd (wt_gf σ1182 108 28)
              have g1198 : 0 ≤ (wt_gf σ1182 108 28).toInt ∧ (wt_gf σ1182 108 28).toInt ≤ 60 := wt_R_gf rσ1182 6 rfl
              have tt1199 : (wt_gf σ1182 108 28).toInt = (wt_gf σ1178 108 28).toInt := congrArg Int32.toInt (fσ1182.1 108 28 (by (try dsimp only); omega))
              have bb1200 := wt_bd (wt_gf σ1178 108 28)
              have g1201 : 0 ≤ (wt_gf σ1178 108 28).toInt ∧ (wt_gf σ1178 108 28).toInt ≤ 60 := wt_R_gf rσ1178 6 rfl
              have bb1202 := wt_bd z1189.1
              refine wt_T_if (fun h1203 => ?_) (fun h1203 => ?_)
              · skip
                have c1204 := wt_cle h1203
                obtain ⟨σ1205, eσ1205⟩ : ∃ z : wt_St, z = wt_sf z1189.2 108 39 (0 : Int32) := ⟨_, rfl⟩
                rw [← eσ1205]
                have fσ1205 := wt_fr_sf eσ1205
                have vσ1205 := wt_ceq (wt_v_sf eσ1205)
                have rσ1205 := wt_RI_fin l1193 eσ1205 7 rfl rfl (show 0 ≤ ((0 : Int32)).toInt by omega) (show ((0 : Int32)).toInt ≤ 8 by omega)
                obtain ⟨σ1206, eσ1206⟩ : ∃ z : wt_St, z = wt_sf σ1205 108 40 (0 : Int32) := ⟨_, rfl⟩
                rw [← eσ1206]
                have fσ1206 := wt_fr_sf eσ1206
                have vσ1206 := wt_ceq (wt_v_sf eσ1206)
                have rσ1206 := wt_RI_fin rσ1205 eσ1206 8 rfl rfl (show 0 ≤ ((0 : Int32)).toInt by omega) (show ((0 : Int32)).toInt ≤ 10 by omega)
                obtain ⟨σ1207, eσ1207⟩ : ∃ z : wt_St, z = wt_sf σ1206 108 41 (0 : Int32) := ⟨_, rfl⟩
                rw [← eσ1207]
                have fσ1207 := wt_fr_sf eσ1207
                have vσ1207 := wt_ceq (wt_v_sf eσ1207)
                have rσ1207 := wt_RI_fin rσ1206 eσ1207 9 rfl rfl (show 0 ≤ ((0 : Int32)).toInt by omega) (show ((0 : Int32)).toInt ≤ 3 by omega)
                refine wt_T_it (fun s : Int32 × wt_St => wt_fr (fun i k => False) (fun i => i = 275 ∨ i = 124) σ1207 s.2 ∧ 0 ≤ (s.1).toInt ∧ wt_RI s.2) (fun s : Int32 × wt_St => ((4 : Int32).toInt - s.1.toInt + 0).toNat) (fun KK1208 z1209 I1210 hKK1208 => ?_) _ _ ?_ ?_
                · skip
                  obtain ⟨l1211, l1212, l1213⟩ := I1210
                  unfold wp_md_tongue_B272
                  have k1214 : (4 : Int32).toInt = 4 := by decide
                  have bb1215 := wt_bd z1209.1
                  refine wt_T_if (fun h1216 => ?_) (fun h1216 => ?_)
                  · skip
                    have c1217 := wt_cle h1216
                    refine wt_T_some ?_
                    have bb1218 := wt_bd (wt_gf z1209.2 108 28)
                    have g1219 : 0 ≤ (wt_gf z1209.2 108 28).toInt ∧ (wt_gf z1209.2 108 28).toInt ≤ 60 := wt_R_gf l1213 6 rfl
                    have tt1220 : (wt_gf z1209.2 108 28).toInt = (wt_gf σ1207 108 28).toInt := congrArg Int32.toInt (l1211.1 108 28 (fun z => z))
                    have bb1221 := wt_bd (wt_gf σ1207 108 28)
                    have g1222 : 0 ≤ (wt_gf σ1207 108 28).toInt ∧ (wt_gf σ1207 108 28).toInt ≤ 60 := wt_R_gf rσ1207 6 rfl
                    have tt1223 : (wt_gf σ1207 108 28).toInt = (wt_gf σ1206 108 28).toInt := congrArg Int32.toInt (fσ1207.1 108 28 (by (try dsimp only); omega))
                    have bb1224 := wt_bd (wt_gf σ1206 108 28)
                    have g1225 : 0 ≤ (wt_gf σ1206 108 28).toInt ∧ (wt_gf σ1206 108 28).toInt ≤ 60 := wt_R_gf rσ1206 6 rfl
                    have tt1226 : (wt_gf σ1206 108 28).toInt = (wt_gf σ1205 108 28).toInt := congrArg Int32.toInt (fσ1206.1 108 28 (by (try dsimp only); omega))
                    have bb1227 := wt_bd (wt_gf σ1205 108 28)
                    have g1228 : 0 ≤ (wt_gf σ1205 108 28).toInt ∧ (wt_gf σ1205 108 28).toInt ≤ 60 := wt_R_gf rσ1205 6 rfl
                    have tt1229 : (wt_gf σ1205 108 28).toInt = (wt_gf z1189.2 108 28).toInt := congrArg Int32.toInt (fσ1205.1 108 28 (by (try dsimp only); omega))
                    have bb1230 := wt_bd (wt_gf z1209.2 108 1)
                    have g1231 : 0 ≤ (wt_gf z1209.2 108 1).toInt ∧ (wt_gf z1209.2 108 1).toInt ≤ 500 := wt_R_gf l1213 0 rfl
                    have tt1232 : (wt_gf z1209.2 108 1).toInt = (wt_gf σ1207 108 1).toInt := congrArg Int32.toInt (l1211.1 108 1 (fun z => z))
                    have bb1233 := wt_bd (wt_gf σ1207 108 1)
                    have g1234 : 0 ≤ (wt_gf σ1207 108 1).toInt ∧ (wt_gf σ1207 108 1).toInt ≤ 500 := wt_R_gf rσ1207 0 rfl
                    have tt1235 : (wt_gf σ1207 108 1).toInt = (wt_gf σ1206 108 1).toInt := congrArg Int32.toInt (fσ1207.1 108 1 (by (try dsimp only); omega))
                    have bb1236 := wt_bd (wt_gf σ1206 108 1)
                    have g1237 : 0 ≤ (wt_gf σ1206 108 1).toInt ∧ (wt_gf σ1206 108 1).toInt ≤ 500 := wt_R_gf rσ1206 0 rfl
                    have tt1238 : (wt_gf σ1206 108 1).toInt = (wt_gf σ1205 108 1).toInt := congrArg Int32.toInt (fσ1206.1 108 1 (by (try dsimp only); omega))
                    have bb1239 := wt_bd (wt_gf σ1205 108 1)
                    have g1240 : 0 ≤ (wt_gf σ1205 108 1).toInt ∧ (wt_gf σ1205 108 1).toInt ≤ 500 := wt_R_gf rσ1205 0 rfl
                    have tt1241 : (wt_gf σ1205 108 1).toInt = (wt_gf z1189.2 108 1).toInt := congrArg Int32.toInt (fσ1205.1 108 1 (by (try dsimp only); omega))
                    have bb1242 := wt_bd (wt_gf z1189.2 108 1)
                    have g1243 : 0 ≤ (wt_gf z1189.2 108 1).toInt ∧ (wt_gf z1189.2 108 1).toInt ≤ 500 := wt_R_gf l1193 0 rfl
                    have tt1244 : (wt_gf z1189.2 108 1).toInt = (wt_gf σ1182 108 1).toInt := congrArg Int32.toInt (l1191.1 108 1 (fun z => z))
                    have bb1245 := wt_bd (wt_gf σ1182 108 1)
                    have g1246 : 0 ≤ (wt_gf σ1182 108 1).toInt ∧ (wt_gf σ1182 108 1).toInt ≤ 500 := wt_R_gf rσ1182 0 rfl
                    have tt1247 : (wt_gf σ1182 108 1).toInt = (wt_gf σ1178 108 1).toInt := congrArg Int32.toInt (fσ1182.1 108 1 (by (try dsimp only); omega))
                    have bb1248 := wt_bd (wt_gf σ1178 108 1)
                    have g1249 : 0 ≤ (wt_gf σ1178 108 1).toInt ∧ (wt_gf σ1178 108 1).toInt ≤ 500 := wt_R_gf rσ1178 0 rfl
                    have tt1250 : (wt_gf σ1178 108 1).toInt = (wt_gf σ1171 108 1).toInt := congrArg Int32.toInt (fσ1178.1 108 1 (by (try dsimp only); omega))
                    have bb1251 := wt_bd (wt_gf σ1171 108 1)
                    have g1252 : 0 ≤ (wt_gf σ1171 108 1).toInt ∧ (wt_gf σ1171 108 1).toInt ≤ 500 := wt_R_gf rσ1171 0 rfl
                    have tt1253 : (wt_gf σ1171 108 1).toInt = (wt_gf z748 108 1).toInt := congrArg Int32.toInt (fσ1171.1 108 1 (by (try dsimp only); omega))
                    have bb1254 := wt_bd (wt_gf z748 108 1)
                    have g1255 : 0 ≤ (wt_gf z748 108 1).toInt ∧ (wt_gf z748 108 1).toInt ≤ 500 := wt_R_gf l751 0 rfl
                    have tt1256 : (wt_gf z748 108 1).toInt = (wt_gf σ746 108 1).toInt := congrArg Int32.toInt (l750.1 108 1 (by (try dsimp only); omega))
                    have bb1257 := wt_bd (wt_gf σ746 108 1)
                    have g1258 : 0 ≤ (wt_gf σ746 108 1).toInt ∧ (wt_gf σ746 108 1).toInt ≤ 500 := wt_R_gf rσ746 0 rfl
                    have tt1259 : (wt_gf σ746 108 1).toInt = (wt_gf σ745 108 1).toInt := congrArg Int32.toInt (fσ746.1 108 1 (by (try dsimp only); omega))
                    have bb1260 := wt_bd (wt_gf σ745 108 1)
                    have g1261 : 0 ≤ (wt_gf σ745 108 1).toInt ∧ (wt_gf σ745 108 1).toInt ≤ 500 := wt_R_gf rσ745 0 rfl
                    have tt1262 : (wt_gf σ745 108 1).toInt = (wt_gf r734 108 1).toInt := congrArg Int32.toInt (fσ745.1 108 1 (by (try dsimp only); omega))
                    exact ⟨(wt_fr.tr (wt_fr.tr (wt_fr.tr (wt_fr.tr (wt_fr.tr (wt_fr.tr (wt_fr.tr (wt_fr.tr (wt_fr.tr (wt_fr.tr (wt_fr.tr (wt_fr.tr (wt_fr.tr (wt_fr.tr wt_fr.rf fσ2 (fun i k h => by (try dsimp only at h); exact Or.inl (by omega)) (fun i h => h.elim)) f726 (fun i k h => by (try dsimp only at h); exact Or.inl (by omega)) (fun i h => h.elim)) f736 (fun i k h => by (try dsimp only at h); rcases h with h | h | h | h | h | h; exact Or.inr (Or.inl (by omega)); exact Or.inr (Or.inr (Or.inl (by omega))); exact Or.inr (Or.inr (Or.inr (Or.inl (by omega)))); exact Or.inr (Or.inr (Or.inr (Or.inr (Or.inl (by omega))))); exact Or.inr (Or.inr (Or.inr (Or.inr (Or.inr (Or.inl (by omega)))))); exact Or.inr (Or.inr (Or.inr (Or.inr (Or.inr (Or.inr (Or.inl (by omega)))))))) (fun i h => h.elim)) fσ745 (fun i k h => by (try dsimp only at h); exact Or.inr (Or.inr (Or.inr (Or.inr (Or.inr (Or.inr (Or.inr (Or.inl (by omega))))))))) (fun i h => h.elim)) fσ746 (fun i k h => by (try dsimp only at h); exact Or.inr (Or.inr (Or.inr (Or.inr (Or.inr (Or.inr (Or.inr (Or.inr (Or.inl (by omega)))))))))) (fun i h => h.elim)) l750 (fun i k h => by (try dsimp only at h); rcases h with h | h | h | h | h; exact Or.inr (Or.inr (Or.inr (Or.inl (by omega)))); exact Or.inr (Or.inr (Or.inr (Or.inr (Or.inl (by omega))))); exact Or.inr (Or.inr (Or.inr (Or.inr (Or.inr (Or.inl (by omega)))))); exact Or.inr (Or.inr (Or.inr (Or.inr (Or.inr (Or.inr (Or.inr (Or.inr (Or.inl (by omega))))))))); exact Or.inr (Or.inr (Or.inr (Or.inr (Or.inr (Or.inr (Or.inr (Or.inl (by omega))))))))) (fun i h => by (try dsimp only at h); rcases h with h | h | h | h; exact Or.inr (Or.inr (Or.inr (Or.inr (Or.inr (Or.inr (Or.inl (by omega))))))); exact Or.inr (Or.inr (Or.inr (Or.inr (Or.inr (Or.inr (Or.inr (Or.inl (by omega)))))))); exact Or.inr (Or.inr (Or.inr (Or.inr (Or.inr (Or.inr (Or.inr (Or.inr (Or.inl (by omega))))))))); exact Or.inr (Or.inr (Or.inr (Or.inr (Or.inr (Or.inr (Or.inr (Or.inr (Or.inr ((by omega)))))))))))) fσ1171 (fun i k h => by (try dsimp only at h); exact Or.inr (Or.inr (Or.inr (Or.inr (Or.inr (Or.inr (Or.inr (Or.inr (Or.inr (Or.inl (by omega))))))))))) (fun i h => h.elim)) fσ1178 (fun i k h => by (try dsimp only at h); exact Or.inr (Or.inr (Or.inr (Or.inr (Or.inr (Or.inr (Or.inr (Or.inr (Or.inr (Or.inr (Or.inl (by omega)))))))))))) (fun i h => h.elim)) fσ1182 (fun i k h => by (try dsimp only at h); exact Or.inr (Or.inr (Or.inr (Or.inr (Or.inr (Or.inr (Or.inr (Or.inr (Or.inr (Or.inr (Or.inr (Or.inl (by omega))))))))))))) (fun i h => h.elim)) l1191 (fun i k h => h.elim) (fun i h => by (try dsimp only at h); rcases h with h | h | h | h; exact Or.inr (Or.inr (Or.inl (by omega))); exact Or.inr (Or.inr (Or.inr (Or.inl (by omega)))); exact Or.inr (Or.inr (Or.inr (Or.inr (Or.inl (by omega))))); exact Or.inr (Or.inr (Or.inr (Or.inr (Or.inr (Or.inl (by omega)))))))) fσ1205 (fun i k h => by (try dsimp only at h); exact Or.inr (Or.inr (Or.inr (Or.inr (Or.inr (Or.inr (Or.inr (Or.inr (Or.inr (Or.inr (Or.inr (Or.inr (Or.inl (by omega)))))))))))))) (fun i h => h.elim)) fσ1206 (fun i k h => by (try dsimp only at h); exact Or.inr (Or.inr (Or.inr (Or.inr (Or.inr (Or.inr (Or.inr (Or.inr (Or.inr (Or.inr (Or.inr (Or.inr (Or.inr (Or.inl (by omega))))))))))))))) (fun i h => h.elim)) fσ1207 (fun i k h => by (try dsimp only at h); exact Or.inr (Or.inr (Or.inr (Or.inr (Or.inr (Or.inr (Or.inr (Or.inr (Or.inr (Or.inr (Or.inr (Or.inr (Or.inr (Or.inr ((by omega)))))))))))))))) (fun i h => h.elim)) l1211 (fun i k h => h.elim) (fun i h => by (try dsimp only at h); rcases h with h | h; exact Or.inl (by omega); exact Or.inr (Or.inl (by omega)))), l1213, (show ((x1.toInt < 0 ∨ (wt_gf σ 108 1).toInt < x1.toInt → (wt_gf z1209.2 108 1).toInt = (wt_gf σ 108 1).toInt) ∧ (0 ≤ x1.toInt ∧ x1.toInt ≤ (wt_gf σ 108 1).toInt → (wt_gf z1209.2 108 1).toInt = 0)) from by omega)⟩
                  · skip
                    have c1263 := wt_ncle h1216
                    refine wt_T_gd (wt_ix (by omega) (by omega)) ?_
                    have bb1264 := wt_tn z1209.1
                    have bb1265 := wt_bd (wt_ga z1209.2 275 (Int32.toNatClampNeg z1209.1))
                    have g1266 : -1 ≤ (wt_ga z1209.2 275 (Int32.toNatClampNeg z1209.1)).toInt ∧ (wt_ga z1209.2 275 (Int32.toNatClampNeg z1209.1)).toInt ≤ 7 := wt_R_ga l1213 12 rfl 275 (by decide) (by decide) (Int32.toNatClampNeg z1209.1)
                    refine wt_T_if (fun h1267 => ?_) (fun h1267 => ?_)
                    · skip
                      have c1268 := wt_ceq h1267
                      rw [wt_lm1] at c1268
                      unfold wp_md_tongue_B292
                      refine hKK1208 _ ⟨(wt_fr.tr wt_fr.rf l1211 (fun i k h => h.elim) (fun i h => by (try dsimp only at h); rcases h with h | h; exact Or.inl (by omega); exact Or.inr ((by omega)))), (wt_nn (B := (4 : Int32)) (by omega) (by omega)), l1213⟩ ?_
                      show ((4 : Int32).toInt - (z1209.1 + (1 : Int32)).toInt + 0).toNat < ((4 : Int32).toInt - z1209.1.toInt + 0).toNat
                      exact wt_mu (by omega) (by omega)
                    · skip
                      have c1269 := wt_nceq h1267
                      rw [wt_lm1] at c1269
                      refine wt_T_bi (wq_md_takesApart n hn z1209.1 z1209.2 l1213 (by omega) (by omega)) (fun r1270 h1271 => ?_)
                      obtain ⟨f1272, ri1273⟩ := h1271
                      unfold wp_md_tongue_B292
                      refine hKK1208 _ ⟨(wt_fr.tr (wt_fr.tr wt_fr.rf l1211 (fun i k h => h.elim) (fun i h => by (try dsimp only at h); rcases h with h | h; exact Or.inl (by omega); exact Or.inr ((by omega)))) f1272 (fun i k h => h.elim) (fun i h => by (try dsimp only at h); rcases h with h | h; exact Or.inl (by omega); exact Or.inr ((by omega)))), (wt_nn (B := (4 : Int32)) (by omega) (by omega)), ri1273⟩ ?_
                      show ((4 : Int32).toInt - (z1209.1 + (1 : Int32)).toInt + 0).toNat < ((4 : Int32).toInt - z1209.1.toInt + 0).toNat
                      exact wt_mu (by omega) (by omega)
                · skip
                  have k1274 : (4 : Int32).toInt = 4 := by decide
                  exact ⟨wt_fr.rf, (show 0 ≤ ((0 : Int32)).toInt by omega), rσ1207⟩
                · skip
                  have k1275 : (4 : Int32).toInt = 4 := by decide
                  show ((4 : Int32).toInt - (0 : Int32).toInt + 0).toNat < n
                  omega
              · skip
                have c1276 := wt_ncle h1203
                refine wt_T_gd (wt_ix (by omega) (by omega)) ?_
                refine wt_T_gd (wt_ix (by omega) (by omega)) ?_
                refine wt_T_gd (wt_ix (by omega) (by omega)) ?_
                refine wt_T_gd (wt_ix (by omega) (by omega)) ?_
                refine wt_T_gd (wt_ix (by omega) (by omega)) ?_
                refine wt_T_gd (wt_ix (by omega) (by omega)) ?_
                obtain ⟨σ1277, eσ1277⟩ : ∃ z : wt_St, z = wt_sa z1189.2 126 (Int32.toNatClampNeg z1189.1) (wt_ga z1189.2 125 (Int32.toNatClampNeg z1189.1)) := ⟨_, rfl⟩
                rw [← eσ1277]
                have fσ1277 := wt_fr_sa eσ1277
                have vσ1277 := wt_ceq (wt_v_sa eσ1277)
                have bb1278 := wt_tn z1189.1
                have bb1279 := wt_bd (wt_ga z1189.2 125 (Int32.toNatClampNeg z1189.1))
                have g1280 : 0 ≤ (wt_ga z1189.2 125 (Int32.toNatClampNeg z1189.1)).toInt ∧ (wt_ga z1189.2 125 (Int32.toNatClampNeg z1189.1)).toInt ≤ 9 := wt_R_ga l1193 5 rfl 125 (by decide) (by decide) (Int32.toNatClampNeg z1189.1)
                have tt1281 : (wt_ga z1189.2 125 (Int32.toNatClampNeg z1189.1)).toInt = (wt_ga σ1182 125 (Int32.toNatClampNeg z1189.1)).toInt := congrArg Int32.toInt (l1191.2 125 (by (try dsimp only); omega) (Int32.toNatClampNeg z1189.1))
                have bb1282 := wt_bd (wt_ga σ1182 125 (Int32.toNatClampNeg z1189.1))
                have g1283 : 0 ≤ (wt_ga σ1182 125 (Int32.toNatClampNeg z1189.1)).toInt ∧ (wt_ga σ1182 125 (Int32.toNatClampNeg z1189.1)).toInt ≤ 9 := wt_R_ga rσ1182 5 rfl 125 (by decide) (by decide) (Int32.toNatClampNeg z1189.1)
                have tt1284 : (wt_ga σ1182 125 (Int32.toNatClampNeg z1189.1)).toInt = (wt_ga σ1178 125 (Int32.toNatClampNeg z1189.1)).toInt := congrArg Int32.toInt (fσ1182.2 125 (fun z => z) (Int32.toNatClampNeg z1189.1))
                have bb1285 := wt_bd (wt_ga σ1178 125 (Int32.toNatClampNeg z1189.1))
                have g1286 : 0 ≤ (wt_ga σ1178 125 (Int32.toNatClampNeg z1189.1)).toInt ∧ (wt_ga σ1178 125 (Int32.toNatClampNeg z1189.1)).toInt ≤ 9 := wt_R_ga rσ1178 5 rfl 125 (by decide) (by decide) (Int32.toNatClampNeg z1189.1)
                have tt1287 : (wt_ga σ1178 125 (Int32.toNatClampNeg z1189.1)).toInt = (wt_ga σ1171 125 (Int32.toNatClampNeg z1189.1)).toInt := congrArg Int32.toInt (fσ1178.2 125 (fun z => z) (Int32.toNatClampNeg z1189.1))
                have bb1288 := wt_bd (wt_ga σ1171 125 (Int32.toNatClampNeg z1189.1))
                have g1289 : 0 ≤ (wt_ga σ1171 125 (Int32.toNatClampNeg z1189.1)).toInt ∧ (wt_ga σ1171 125 (Int32.toNatClampNeg z1189.1)).toInt ≤ 9 := wt_R_ga rσ1171 5 rfl 125 (by decide) (by decide) (Int32.toNatClampNeg z1189.1)
                have tt1290 : (wt_ga σ1171 125 (Int32.toNatClampNeg z1189.1)).toInt = (wt_ga z748 125 (Int32.toNatClampNeg z1189.1)).toInt := congrArg Int32.toInt (fσ1171.2 125 (fun z => z) (Int32.toNatClampNeg z1189.1))
                have bb1291 := wt_bd (wt_ga z748 125 (Int32.toNatClampNeg z1189.1))
                have g1292 : 0 ≤ (wt_ga z748 125 (Int32.toNatClampNeg z1189.1)).toInt ∧ (wt_ga z748 125 (Int32.toNatClampNeg z1189.1)).toInt ≤ 9 := wt_R_ga l751 5 rfl 125 (by decide) (by decide) (Int32.toNatClampNeg z1189.1)
                have rσ1277 := wt_RI_in l1193 eσ1277 5 rfl (by decide) (by decide) (show 0 ≤ (wt_ga z1189.2 125 (Int32.toNatClampNeg z1189.1)).toInt by omega) (show (wt_ga z1189.2 125 (Int32.toNatClampNeg z1189.1)).toInt ≤ 9 by omega)
                obtain ⟨σ1293, eσ1293⟩ : ∃ z : wt_St, z = wt_sa σ1277 128 (Int32.toNatClampNeg z1189.1) (wt_ga σ1277 127 (Int32.toNatClampNeg z1189.1)) := ⟨_, rfl⟩
                rw [← eσ1293]
                have fσ1293 := wt_fr_sa eσ1293
                have vσ1293 := wt_ceq (wt_v_sa eσ1293)
                have bb1294 := wt_bd (wt_ga σ1277 127 (Int32.toNatClampNeg z1189.1))
                have g1295 : 0 ≤ (wt_ga σ1277 127 (Int32.toNatClampNeg z1189.1)).toInt ∧ (wt_ga σ1277 127 (Int32.toNatClampNeg z1189.1)).toInt ≤ 3 := wt_R_ga rσ1277 6 rfl 127 (by decide) (by decide) (Int32.toNatClampNeg z1189.1)
                have tt1296 : (wt_ga σ1277 127 (Int32.toNatClampNeg z1189.1)).toInt = (wt_ga z1189.2 127 (Int32.toNatClampNeg z1189.1)).toInt := congrArg Int32.toInt (fσ1277.2 127 (by (try dsimp only); omega) (Int32.toNatClampNeg z1189.1))
                have bb1297 := wt_bd (wt_ga z1189.2 127 (Int32.toNatClampNeg z1189.1))
                have g1298 : 0 ≤ (wt_ga z1189.2 127 (Int32.toNatClampNeg z1189.1)).toInt ∧ (wt_ga z1189.2 127 (Int32.toNatClampNeg z1189.1)).toInt ≤ 3 := wt_R_ga l1193 6 rfl 127 (by decide) (by decide) (Int32.toNatClampNeg z1189.1)
                have tt1299 : (wt_ga z1189.2 127 (Int32.toNatClampNeg z1189.1)).toInt = (wt_ga σ1182 127 (Int32.toNatClampNeg z1189.1)).toInt := congrArg Int32.toInt (l1191.2 127 (by (try dsimp only); omega) (Int32.toNatClampNeg z1189.1))
                have bb1300 := wt_bd (wt_ga σ1182 127 (Int32.toNatClampNeg z1189.1))
                have g1301 : 0 ≤ (wt_ga σ1182 127 (Int32.toNatClampNeg z1189.1)).toInt ∧ (wt_ga σ1182 127 (Int32.toNatClampNeg z1189.1)).toInt ≤ 3 := wt_R_ga rσ1182 6 rfl 127 (by decide) (by decide) (Int32.toNatClampNeg z1189.1)
                have tt1302 : (wt_ga σ1182 127 (Int32.toNatClampNeg z1189.1)).toInt = (wt_ga σ1178 127 (Int32.toNatClampNeg z1189.1)).toInt := congrArg Int32.toInt (fσ1182.2 127 (fun z => z) (Int32.toNatClampNeg z1189.1))
                have bb1303 := wt_bd (wt_ga σ1178 127 (Int32.toNatClampNeg z1189.1))
                have g1304 : 0 ≤ (wt_ga σ1178 127 (Int32.toNatClampNeg z1189.1)).toInt ∧ (wt_ga σ1178 127 (Int32.toNatClampNeg z1189.1)).toInt ≤ 3 := wt_R_ga rσ1178 6 rfl 127 (by decide) (by decide) (Int32.toNatClampNeg z1189.1)
                have tt1305 : (wt_ga σ1178 127 (Int32.toNatClampNeg z1189.1)).toInt = (wt_ga σ1171 127 (Int32.toNatClampNeg z1189.1)).toInt := congrArg Int32.toInt (fσ1178.2 127 (fun z => z) (Int32.toNatClampNeg z1189.1))
                have bb1306 := wt_bd (wt_ga σ1171 127 (Int32.toNatClampNeg z1189.1))
                have g1307 : 0 ≤ (wt_ga σ1171 127 (Int32.toNatClampNeg z1189.1)).toInt ∧ (wt_ga σ1171 127 (Int32.toNatClampNeg z1189.1)).toInt ≤ 3 := wt_R_ga rσ1171 6 rfl 127 (by decide) (by decide) (Int32.toNatClampNeg z1189.1)
                have tt1308 : (wt_ga σ1171 127 (Int32.toNatClampNeg z1189.1)).toInt = (wt_ga z748 127 (Int32.toNatClampNeg z1189.1)).toInt := congrArg Int32.toInt (fσ1171.2 127 (fun z => z) (Int32.toNatClampNeg z1189.1))
                have bb1309 := wt_bd (wt_ga z748 127 (Int32.toNatClampNeg z1189.1))
                have g1310 : 0 ≤ (wt_ga z748 127 (Int32.toNatClampNeg z1189.1)).toInt ∧ (wt_ga z748 127 (Int32.toNatClampNeg z1189.1)).toInt ≤ 3 := wt_R_ga l751 6 rfl 127 (by decide) (by decide) (Int32.toNatClampNeg z1189.1)
                have rσ1293 := wt_RI_in rσ1277 eσ1293 6 rfl (by decide) (by decide) (show 0 ≤ (wt_ga σ1277 127 (Int32.toNatClampNeg z1189.1)).toInt by omega) (show (wt_ga σ1277 127 (Int32.toNatClampNeg z1189.1)).toInt ≤ 3 by omega)
                obtain ⟨σ1311, eσ1311⟩ : ∃ z : wt_St, z = wt_sa σ1293 130 (Int32.toNatClampNeg z1189.1) (wt_ga σ1293 129 (Int32.toNatClampNeg z1189.1)) := ⟨_, rfl⟩
                rw [← eσ1311]
                have fσ1311 := wt_fr_sa eσ1311
                have vσ1311 := wt_ceq (wt_v_sa eσ1311)
                have bb1312 := wt_bd (wt_ga σ1293 129 (Int32.toNatClampNeg z1189.1))
                have tt1313 : (wt_ga σ1293 129 (Int32.toNatClampNeg z1189.1)).toInt = (wt_ga σ1277 129 (Int32.toNatClampNeg z1189.1)).toInt := congrArg Int32.toInt (fσ1293.2 129 (by (try dsimp only); omega) (Int32.toNatClampNeg z1189.1))
                have bb1314 := wt_bd (wt_ga σ1277 129 (Int32.toNatClampNeg z1189.1))
                have tt1315 : (wt_ga σ1277 129 (Int32.toNatClampNeg z1189.1)).toInt = (wt_ga z1189.2 129 (Int32.toNatClampNeg z1189.1)).toInt := congrArg Int32.toInt (fσ1277.2 129 (by (try dsimp only); omega) (Int32.toNatClampNeg z1189.1))
                have bb1316 := wt_bd (wt_ga z1189.2 129 (Int32.toNatClampNeg z1189.1))
                have tt1317 : (wt_ga z1189.2 129 (Int32.toNatClampNeg z1189.1)).toInt = (wt_ga σ1182 129 (Int32.toNatClampNeg z1189.1)).toInt := congrArg Int32.toInt (l1191.2 129 (by (try dsimp only); omega) (Int32.toNatClampNeg z1189.1))
                have bb1318 := wt_bd (wt_ga σ1182 129 (Int32.toNatClampNeg z1189.1))
                have tt1319 : (wt_ga σ1182 129 (Int32.toNatClampNeg z1189.1)).toInt = (wt_ga σ1178 129 (Int32.toNatClampNeg z1189.1)).toInt := congrArg Int32.toInt (fσ1182.2 129 (fun z => z) (Int32.toNatClampNeg z1189.1))
                have bb1320 := wt_bd (wt_ga σ1178 129 (Int32.toNatClampNeg z1189.1))
                have tt1321 : (wt_ga σ1178 129 (Int32.toNatClampNeg z1189.1)).toInt = (wt_ga σ1171 129 (Int32.toNatClampNeg z1189.1)).toInt := congrArg Int32.toInt (fσ1178.2 129 (fun z => z) (Int32.toNatClampNeg z1189.1))
                have bb1322 := wt_bd (wt_ga σ1171 129 (Int32.toNatClampNeg z1189.1))
                have tt1323 : (wt_ga σ1171 129 (Int32.toNatClampNeg z1189.1)).toInt = (wt_ga z748 129 (Int32.toNatClampNeg z1189.1)).toInt := congrArg Int32.toInt (fσ1171.2 129 (fun z => z) (Int32.toNatClampNeg z1189.1))
                have bb1324 := wt_bd (wt_ga z748 129 (Int32.toNatClampNeg z1189.1))
                have rσ1311 := wt_RI_no rσ1293 eσ1311 130 131 (by decide) (by decide) (by decide)
                refine wt_T_it (fun s : Int32 × wt_St => wt_fr (fun i k => False) (fun i => (193 ≤ i ∧ i < 253)) σ1311 s.2 ∧ 0 ≤ (s.1).toInt ∧ wt_RI s.2) (fun s : Int32 × wt_St => ((9 : Int32).toInt - s.1.toInt + 0).toNat) (fun KK1325 z1326 I1327 hKK1325 => ?_) _ _ ?_ ?_
                · skip
                  obtain ⟨l1328, l1329, l1330⟩ := I1327
                  unfold wp_md_tongue_B221
                  have k1331 : (9 : Int32).toInt = 9 := by decide
                  have bb1332 := wt_bd z1326.1
                  refine wt_T_if (fun h1333 => ?_) (fun h1333 => ?_)
                  · skip
                    have c1334 := wt_cle h1333
                    have bb1335 := wt_bd (wt_gf z1326.2 108 28)
                    have g1336 : 0 ≤ (wt_gf z1326.2 108 28).toInt ∧ (wt_gf z1326.2 108 28).toInt ≤ 60 := wt_R_gf l1330 6 rfl
                    have tt1337 : (wt_gf z1326.2 108 28).toInt = (wt_gf σ1311 108 28).toInt := congrArg Int32.toInt (l1328.1 108 28 (fun z => z))
                    have bb1338 := wt_bd (wt_gf σ1311 108 28)
                    have g1339 : 0 ≤ (wt_gf σ1311 108 28).toInt ∧ (wt_gf σ1311 108 28).toInt ≤ 60 := wt_R_gf rσ1311 6 rfl
                    have tt1340 : (wt_gf σ1311 108 28).toInt = (wt_gf σ1293 108 28).toInt := congrArg Int32.toInt (fσ1311.1 108 28 (fun z => z))
                    have bb1341 := wt_bd (wt_gf σ1293 108 28)
                    have g1342 : 0 ≤ (wt_gf σ1293 108 28).toInt ∧ (wt_gf σ1293 108 28).toInt ≤ 60 := wt_R_gf rσ1293 6 rfl
                    have tt1343 : (wt_gf σ1293 108 28).toInt = (wt_gf σ1277 108 28).toInt := congrArg Int32.toInt (fσ1293.1 108 28 (fun z => z))
                    have bb1344 := wt_bd (wt_gf σ1277 108 28)
                    have g1345 : 0 ≤ (wt_gf σ1277 108 28).toInt ∧ (wt_gf σ1277 108 28).toInt ≤ 60 := wt_R_gf rσ1277 6 rfl
                    have tt1346 : (wt_gf σ1277 108 28).toInt = (wt_gf z1189.2 108 28).toInt := congrArg Int32.toInt (fσ1277.1 108 28 (fun z => z))
                    refine hKK1188 _ ⟨(wt_fr.tr (wt_fr.tr (wt_fr.tr (wt_fr.tr (wt_fr.tr wt_fr.rf l1191 (fun i k h => h.elim) (fun i h => by (try dsimp only at h); rcases h with h | h | h | h; exact Or.inl (by omega); exact Or.inr (Or.inl (by omega)); exact Or.inr (Or.inr (Or.inl (by omega))); exact Or.inr (Or.inr (Or.inr ((by omega)))))) fσ1277 (fun i k h => h.elim) (fun i h => by (try dsimp only at h); exact Or.inl (by omega))) fσ1293 (fun i k h => h.elim) (fun i h => by (try dsimp only at h); exact Or.inr (Or.inl (by omega)))) fσ1311 (fun i k h => h.elim) (fun i h => by (try dsimp only at h); exact Or.inr (Or.inr (Or.inl (by omega))))) l1328 (fun i k h => h.elim) (fun i h => by (try dsimp only at h); exact Or.inr (Or.inr (Or.inr ((by omega)))))), (wt_nn (B := wt_gf z1189.2 108 28) (by omega) (by omega)), l1330⟩ ?_
                    show ((wt_gf z1326.2 108 28).toInt - (z1189.1 + (1 : Int32)).toInt + 0).toNat < ((wt_gf z1189.2 108 28).toInt - z1189.1.toInt + 0).toNat
                    exact wt_mu (by omega) (by omega)
                  · skip
                    have c1347 := wt_ncle h1333
                    refine wt_T_gd (wt_ix (by omega) (by omega)) ?_
                    refine wt_T_gd (wt_ix (by omega) (by omega)) ?_
                    refine wt_T_gd (wt_ix (by omega) (by omega)) ?_
                    refine wt_T_gd (wt_ix (by omega) (by omega)) ?_
                    obtain ⟨σ1348, eσ1348⟩ : ∃ z : wt_St, z = wt_sa z1326.2 (193 + (Int32.toNatClampNeg z1189.1)) (Int32.toNatClampNeg z1326.1) (wt_ga z1326.2 (132 + (Int32.toNatClampNeg z1189.1)) (Int32.toNatClampNeg z1326.1)) := ⟨_, rfl⟩
                    rw [← eσ1348]
                    have fσ1348 := wt_fr_sa eσ1348
                    have vσ1348 := wt_ceq (wt_v_sa eσ1348)
                    have bb1349 := wt_tn z1326.1
                    have bb1350 := wt_bd (wt_ga z1326.2 (132 + (Int32.toNatClampNeg z1189.1)) (Int32.toNatClampNeg z1326.1))
                    have g1351 : 0 ≤ (wt_ga z1326.2 (132 + (Int32.toNatClampNeg z1189.1)) (Int32.toNatClampNeg z1326.1)).toInt ∧ (wt_ga z1326.2 (132 + (Int32.toNatClampNeg z1189.1)) (Int32.toNatClampNeg z1326.1)).toInt ≤ 25 := wt_R_ga l1330 7 rfl (132 + (Int32.toNatClampNeg z1189.1)) (show 132 ≤ 132 + (Int32.toNatClampNeg z1189.1) by omega) (show 132 + (Int32.toNatClampNeg z1189.1) < 192 by omega) (Int32.toNatClampNeg z1326.1)
                    have tt1352 : (wt_ga z1326.2 (132 + (Int32.toNatClampNeg z1189.1)) (Int32.toNatClampNeg z1326.1)).toInt = (wt_ga σ1311 (132 + (Int32.toNatClampNeg z1189.1)) (Int32.toNatClampNeg z1326.1)).toInt := congrArg Int32.toInt (l1328.2 (132 + (Int32.toNatClampNeg z1189.1)) (by (try dsimp only); omega) (Int32.toNatClampNeg z1326.1))
                    have bb1353 := wt_bd (wt_ga σ1311 (132 + (Int32.toNatClampNeg z1189.1)) (Int32.toNatClampNeg z1326.1))
                    have g1354 : 0 ≤ (wt_ga σ1311 (132 + (Int32.toNatClampNeg z1189.1)) (Int32.toNatClampNeg z1326.1)).toInt ∧ (wt_ga σ1311 (132 + (Int32.toNatClampNeg z1189.1)) (Int32.toNatClampNeg z1326.1)).toInt ≤ 25 := wt_R_ga rσ1311 7 rfl (132 + (Int32.toNatClampNeg z1189.1)) (show 132 ≤ 132 + (Int32.toNatClampNeg z1189.1) by omega) (show 132 + (Int32.toNatClampNeg z1189.1) < 192 by omega) (Int32.toNatClampNeg z1326.1)
                    have tt1355 : (wt_ga σ1311 (132 + (Int32.toNatClampNeg z1189.1)) (Int32.toNatClampNeg z1326.1)).toInt = (wt_ga σ1293 (132 + (Int32.toNatClampNeg z1189.1)) (Int32.toNatClampNeg z1326.1)).toInt := congrArg Int32.toInt (fσ1311.2 (132 + (Int32.toNatClampNeg z1189.1)) (by (try dsimp only); omega) (Int32.toNatClampNeg z1326.1))
                    have bb1356 := wt_bd (wt_ga σ1293 (132 + (Int32.toNatClampNeg z1189.1)) (Int32.toNatClampNeg z1326.1))
                    have g1357 : 0 ≤ (wt_ga σ1293 (132 + (Int32.toNatClampNeg z1189.1)) (Int32.toNatClampNeg z1326.1)).toInt ∧ (wt_ga σ1293 (132 + (Int32.toNatClampNeg z1189.1)) (Int32.toNatClampNeg z1326.1)).toInt ≤ 25 := wt_R_ga rσ1293 7 rfl (132 + (Int32.toNatClampNeg z1189.1)) (show 132 ≤ 132 + (Int32.toNatClampNeg z1189.1) by omega) (show 132 + (Int32.toNatClampNeg z1189.1) < 192 by omega) (Int32.toNatClampNeg z1326.1)
                    have tt1358 : (wt_ga σ1293 (132 + (Int32.toNatClampNeg z1189.1)) (Int32.toNatClampNeg z1326.1)).toInt = (wt_ga σ1277 (132 + (Int32.toNatClampNeg z1189.1)) (Int32.toNatClampNeg z1326.1)).toInt := congrArg Int32.toInt (fσ1293.2 (132 + (Int32.toNatClampNeg z1189.1)) (by (try dsimp only); omega) (Int32.toNatClampNeg z1326.1))
                    have bb1359 := wt_bd (wt_ga σ1277 (132 + (Int32.toNatClampNeg z1189.1)) (Int32.toNatClampNeg z1326.1))
                    have g1360 : 0 ≤ (wt_ga σ1277 (132 + (Int32.toNatClampNeg z1189.1)) (Int32.toNatClampNeg z1326.1)).toInt ∧ (wt_ga σ1277 (132 + (Int32.toNatClampNeg z1189.1)) (Int32.toNatClampNeg z1326.1)).toInt ≤ 25 := wt_R_ga rσ1277 7 rfl (132 + (Int32.toNatClampNeg z1189.1)) (show 132 ≤ 132 + (Int32.toNatClampNeg z1189.1) by omega) (show 132 + (Int32.toNatClampNeg z1189.1) < 192 by omega) (Int32.toNatClampNeg z1326.1)
                    have tt1361 : (wt_ga σ1277 (132 + (Int32.toNatClampNeg z1189.1)) (Int32.toNatClampNeg z1326.1)).toInt = (wt_ga z1189.2 (132 + (Int32.toNatClampNeg z1189.1)) (Int32.toNatClampNeg z1326.1)).toInt := congrArg Int32.toInt (fσ1277.2 (132 + (Int32.toNatClampNeg z1189.1)) (by (try dsimp only); omega) (Int32.toNatClampNeg z1326.1))
                    have bb1362 := wt_bd (wt_ga z1189.2 (132 + (Int32.toNatClampNeg z1189.1)) (Int32.toNatClampNeg z1326.1))
                    have g1363 : 0 ≤ (wt_ga z1189.2 (132 + (Int32.toNatClampNeg z1189.1)) (Int32.toNatClampNeg z1326.1)).toInt ∧ (wt_ga z1189.2 (132 + (Int32.toNatClampNeg z1189.1)) (Int32.toNatClampNeg z1326.1)).toInt ≤ 25 := wt_R_ga l1193 7 rfl (132 + (Int32.toNatClampNeg z1189.1)) (show 132 ≤ 132 + (Int32.toNatClampNeg z1189.1) by omega) (show 132 + (Int32.toNatClampNeg z1189.1) < 192 by omega) (Int32.toNatClampNeg z1326.1)
                    have tt1364 : (wt_ga z1189.2 (132 + (Int32.toNatClampNeg z1189.1)) (Int32.toNatClampNeg z1326.1)).toInt = (wt_ga σ1182 (132 + (Int32.toNatClampNeg z1189.1)) (Int32.toNatClampNeg z1326.1)).toInt := congrArg Int32.toInt (l1191.2 (132 + (Int32.toNatClampNeg z1189.1)) (by (try dsimp only); omega) (Int32.toNatClampNeg z1326.1))
                    have bb1365 := wt_bd (wt_ga σ1182 (132 + (Int32.toNatClampNeg z1189.1)) (Int32.toNatClampNeg z1326.1))
                    have g1366 : 0 ≤ (wt_ga σ1182 (132 + (Int32.toNatClampNeg z1189.1)) (Int32.toNatClampNeg z1326.1)).toInt ∧ (wt_ga σ1182 (132 + (Int32.toNatClampNeg z1189.1)) (Int32.toNatClampNeg z1326.1)).toInt ≤ 25 := wt_R_ga rσ1182 7 rfl (132 + (Int32.toNatClampNeg z1189.1)) (show 132 ≤ 132 + (Int32.toNatClampNeg z1189.1) by omega) (show 132 + (Int32.toNatClampNeg z1189.1) < 192 by omega) (Int32.toNatClampNeg z1326.1)
                    have tt1367 : (wt_ga σ1182 (132 + (Int32.toNatClampNeg z1189.1)) (Int32.toNatClampNeg z1326.1)).toInt = (wt_ga σ1178 (132 + (Int32.toNatClampNeg z1189.1)) (Int32.toNatClampNeg z1326.1)).toInt := congrArg Int32.toInt (fσ1182.2 (132 + (Int32.toNatClampNeg z1189.1)) (fun z => z) (Int32.toNatClampNeg z1326.1))
                    have bb1368 := wt_bd (wt_ga σ1178 (132 + (Int32.toNatClampNeg z1189.1)) (Int32.toNatClampNeg z1326.1))
                    have g1369 : 0 ≤ (wt_ga σ1178 (132 + (Int32.toNatClampNeg z1189.1)) (Int32.toNatClampNeg z1326.1)).toInt ∧ (wt_ga σ1178 (132 + (Int32.toNatClampNeg z1189.1)) (Int32.toNatClampNeg z1326.1)).toInt ≤ 25 := wt_R_ga rσ1178 7 rfl (132 + (Int32.toNatClampNeg z1189.1)) (show 132 ≤ 132 + (Int32.toNatClampNeg z1189.1) by omega) (show 132 + (Int32.toNatClampNeg z1189.1) < 192 by omega) (Int32.toNatClampNeg z1326.1)
                    have tt1370 : (wt_ga σ1178 (132 + (Int32.toNatClampNeg z1189.1)) (Int32.toNatClampNeg z1326.1)).toInt = (wt_ga σ1171 (132 + (Int32.toNatClampNeg z1189.1)) (Int32.toNatClampNeg z1326.1)).toInt := congrArg Int32.toInt (fσ1178.2 (132 + (Int32.toNatClampNeg z1189.1)) (fun z => z) (Int32.toNatClampNeg z1326.1))
                    have bb1371 := wt_bd (wt_ga σ1171 (132 + (Int32.toNatClampNeg z1189.1)) (Int32.toNatClampNeg z1326.1))
                    have g1372 : 0 ≤ (wt_ga σ1171 (132 + (Int32.toNatClampNeg z1189.1)) (Int32.toNatClampNeg z1326.1)).toInt ∧ (wt_ga σ1171 (132 + (Int32.toNatClampNeg z1189.1)) (Int32.toNatClampNeg z1326.1)).toInt ≤ 25 := wt_R_ga rσ1171 7 rfl (132 + (Int32.toNatClampNeg z1189.1)) (show 132 ≤ 132 + (Int32.toNatClampNeg z1189.1) by omega) (show 132 + (Int32.toNatClampNeg z1189.1) < 192 by omega) (Int32.toNatClampNeg z1326.1)
                    have tt1373 : (wt_ga σ1171 (132 + (Int32.toNatClampNeg z1189.1)) (Int32.toNatClampNeg z1326.1)).toInt = (wt_ga z748 (132 + (Int32.toNatClampNeg z1189.1)) (Int32.toNatClampNeg z1326.1)).toInt := congrArg Int32.toInt (fσ1171.2 (132 + (Int32.toNatClampNeg z1189.1)) (fun z => z) (Int32.toNatClampNeg z1326.1))
                    have bb1374 := wt_bd (wt_ga z748 (132 + (Int32.toNatClampNeg z1189.1)) (Int32.toNatClampNeg z1326.1))
                    have g1375 : 0 ≤ (wt_ga z748 (132 + (Int32.toNatClampNeg z1189.1)) (Int32.toNatClampNeg z1326.1)).toInt ∧ (wt_ga z748 (132 + (Int32.toNatClampNeg z1189.1)) (Int32.toNatClampNeg z1326.1)).toInt ≤ 25 := wt_R_ga l751 7 rfl (132 + (Int32.toNatClampNeg z1189.1)) (show 132 ≤ 132 + (Int32.toNatClampNeg z1189.1) by omega) (show 132 + (Int32.toNatClampNeg z1189.1) < 192 by omega) (Int32.toNatClampNeg z1326.1)
                    have rσ1348 := wt_RI_in l1330 eσ1348 8 rfl (show 193 ≤ 193 + (Int32.toNatClampNeg z1189.1) by omega) (show 193 + (Int32.toNatClampNeg z1189.1) < 253 by omega) (show 0 ≤ (wt_ga z1326.2 (132 + (Int32.toNatClampNeg z1189.1)) (Int32.toNatClampNeg z1326.1)).toInt by omega) (show (wt_ga z1326.2 (132 + (Int32.toNatClampNeg z1189.1)) (Int32.toNatClampNeg z1326.1)).toInt ≤ 25 by omega)
                    refine hKK1325 _ ⟨(wt_fr.tr (wt_fr.tr wt_fr.rf l1328 (fun i k h => h.elim) (fun i h => by (try dsimp only at h); exact (by omega))) fσ1348 (fun i k h => h.elim) (fun i h => by (try dsimp only at h); exact (by omega))), (wt_nn (B := (9 : Int32)) (by omega) (by omega)), rσ1348⟩ ?_
                    show ((9 : Int32).toInt - (z1326.1 + (1 : Int32)).toInt + 0).toNat < ((9 : Int32).toInt - z1326.1.toInt + 0).toNat
                    exact wt_mu (by omega) (by omega)
                · skip
                  have k1376 : (9 : Int32).toInt = 9 := by decide
                  exact ⟨wt_fr.rf, (show 0 ≤ ((0 : Int32)).toInt by omega), rσ1311⟩
                · skip
                  have k1377 : (9 : Int32).toInt = 9 := by decide
                  show ((9 : Int32).toInt - (0 : Int32).toInt + 0).toNat < n
                  omega
            · skip
              have bb1378 := wt_bd (wt_gf σ1182 108 28)
              have g1379 : 0 ≤ (wt_gf σ1182 108 28).toInt ∧ (wt_gf σ1182 108 28).toInt ≤ 60 := wt_R_gf rσ1182 6 rfl
              have tt1380 : (wt_gf σ1182 108 28).toInt = (wt_gf σ1178 108 28).toInt := congrArg Int32.toInt (fσ1182.1 108 28 (by (try dsimp only); omega))
              have bb1381 := wt_bd (wt_gf σ1178 108 28)
              have g1382 : 0 ≤ (wt_gf σ1178 108 28).toInt ∧ (wt_gf σ1178 108 28).toInt ≤ 60 := wt_R_gf rσ1178 6 rfl
              exact ⟨wt_fr.rf, (show 0 ≤ ((0 : Int32)).toInt by omega), rσ1182⟩
            · skip
              have bb1383 := wt_bd (wt_gf σ1182 108 28)
              have g1384 : 0 ≤ (wt_gf σ1182 108 28).toInt ∧ (wt_gf σ1182 108 28).toInt ≤ 60 := wt_R_gf rσ1182 6 rfl
              have tt1385 : (wt_gf σ1182 108 28).toInt = (wt_gf σ1178 108 28).toInt := congrArg Int32.toInt (fσ1182.1 108 28 (by (try dsimp only); omega))
              have bb1386 := wt_bd (wt_gf σ1178 108 28)
              have g1387 : 0 ≤ (wt_gf σ1178 108 28).toInt ∧ (wt_gf σ1178 108 28).toInt ≤ 60 := wt_R_gf rσ1178 6 rfl
              show ((wt_gf σ1182 108 28).toInt - (0 : Int32).toInt + 0).toNat < n
              omega
          · skip
            have c1388 := wt_nceq h1176
            refine wt_T_some ?_
            have k1389 : (10 : Int32).toInt = 10 := by decide
            obtain ⟨j1390, j1390a, j1390b⟩ := wt_subI (wt_gf σ1171 108 5) (10 : Int32)
            have bb1391 := wt_bd (wt_gf σ1171 108 1)
            have g1392 : 0 ≤ (wt_gf σ1171 108 1).toInt ∧ (wt_gf σ1171 108 1).toInt ≤ 500 := wt_R_gf rσ1171 0 rfl
            have tt1393 : (wt_gf σ1171 108 1).toInt = (wt_gf z748 108 1).toInt := congrArg Int32.toInt (fσ1171.1 108 1 (by (try dsimp only); omega))
            have bb1394 := wt_bd (wt_gf z748 108 1)
            have g1395 : 0 ≤ (wt_gf z748 108 1).toInt ∧ (wt_gf z748 108 1).toInt ≤ 500 := wt_R_gf l751 0 rfl
            have tt1396 : (wt_gf z748 108 1).toInt = (wt_gf σ746 108 1).toInt := congrArg Int32.toInt (l750.1 108 1 (by (try dsimp only); omega))
            have bb1397 := wt_bd (wt_gf σ746 108 1)
            have g1398 : 0 ≤ (wt_gf σ746 108 1).toInt ∧ (wt_gf σ746 108 1).toInt ≤ 500 := wt_R_gf rσ746 0 rfl
            have tt1399 : (wt_gf σ746 108 1).toInt = (wt_gf σ745 108 1).toInt := congrArg Int32.toInt (fσ746.1 108 1 (by (try dsimp only); omega))
            have bb1400 := wt_bd (wt_gf σ745 108 1)
            have g1401 : 0 ≤ (wt_gf σ745 108 1).toInt ∧ (wt_gf σ745 108 1).toInt ≤ 500 := wt_R_gf rσ745 0 rfl
            have tt1402 : (wt_gf σ745 108 1).toInt = (wt_gf r734 108 1).toInt := congrArg Int32.toInt (fσ745.1 108 1 (by (try dsimp only); omega))
            exact ⟨(wt_fr.tr (wt_fr.tr (wt_fr.tr (wt_fr.tr (wt_fr.tr (wt_fr.tr (wt_fr.tr wt_fr.rf fσ2 (fun i k h => by (try dsimp only at h); exact Or.inl (by omega)) (fun i h => h.elim)) f726 (fun i k h => by (try dsimp only at h); exact Or.inl (by omega)) (fun i h => h.elim)) f736 (fun i k h => by (try dsimp only at h); rcases h with h | h | h | h | h | h; exact Or.inr (Or.inl (by omega)); exact Or.inr (Or.inr (Or.inl (by omega))); exact Or.inr (Or.inr (Or.inr (Or.inl (by omega)))); exact Or.inr (Or.inr (Or.inr (Or.inr (Or.inl (by omega))))); exact Or.inr (Or.inr (Or.inr (Or.inr (Or.inr (Or.inl (by omega)))))); exact Or.inr (Or.inr (Or.inr (Or.inr (Or.inr (Or.inr (Or.inl (by omega)))))))) (fun i h => h.elim)) fσ745 (fun i k h => by (try dsimp only at h); exact Or.inr (Or.inr (Or.inr (Or.inr (Or.inr (Or.inr (Or.inr (Or.inl (by omega))))))))) (fun i h => h.elim)) fσ746 (fun i k h => by (try dsimp only at h); exact Or.inr (Or.inr (Or.inr (Or.inr (Or.inr (Or.inr (Or.inr (Or.inr (Or.inl (by omega)))))))))) (fun i h => h.elim)) l750 (fun i k h => by (try dsimp only at h); rcases h with h | h | h | h | h; exact Or.inr (Or.inr (Or.inr (Or.inl (by omega)))); exact Or.inr (Or.inr (Or.inr (Or.inr (Or.inl (by omega))))); exact Or.inr (Or.inr (Or.inr (Or.inr (Or.inr (Or.inl (by omega)))))); exact Or.inr (Or.inr (Or.inr (Or.inr (Or.inr (Or.inr (Or.inr (Or.inr (Or.inl (by omega))))))))); exact Or.inr (Or.inr (Or.inr (Or.inr (Or.inr (Or.inr (Or.inr (Or.inl (by omega))))))))) (fun i h => by (try dsimp only at h); rcases h with h | h | h | h; exact Or.inr (Or.inr (Or.inr (Or.inr (Or.inr (Or.inr (Or.inl (by omega))))))); exact Or.inr (Or.inr (Or.inr (Or.inr (Or.inr (Or.inr (Or.inr (Or.inl (by omega)))))))); exact Or.inr (Or.inr (Or.inr (Or.inr (Or.inr (Or.inr (Or.inr (Or.inr (Or.inl (by omega))))))))); exact Or.inr (Or.inr (Or.inr (Or.inr (Or.inr (Or.inr (Or.inr (Or.inr (Or.inr ((by omega)))))))))))) fσ1171 (fun i k h => by (try dsimp only at h); exact Or.inr (Or.inr (Or.inr (Or.inr (Or.inr (Or.inr (Or.inr (Or.inr (Or.inr (Or.inl (by omega))))))))))) (fun i h => h.elim)), rσ1171, (show ((x1.toInt < 0 ∨ (wt_gf σ 108 1).toInt < x1.toInt → (wt_gf σ1171 108 1).toInt = (wt_gf σ 108 1).toInt) ∧ (0 ≤ x1.toInt ∧ x1.toInt ≤ (wt_gf σ 108 1).toInt → (wt_gf σ1171 108 1).toInt = 0)) from by omega)⟩
      · skip
        have bb1403 := wt_bd (wt_gf σ746 108 27)
        have g1404 : 0 ≤ (wt_gf σ746 108 27).toInt ∧ (wt_gf σ746 108 27).toInt ≤ 60 := wt_R_gf rσ746 5 rfl
        have tt1405 : (wt_gf σ746 108 27).toInt = (wt_gf σ745 108 27).toInt := congrArg Int32.toInt (fσ746.1 108 27 (by (try dsimp only); omega))
        have bb1406 := wt_bd (wt_gf σ745 108 27)
        have g1407 : 0 ≤ (wt_gf σ745 108 27).toInt ∧ (wt_gf σ745 108 27).toInt ≤ 60 := wt_R_gf rσ745 5 rfl
        have bb1408 := wt_bd (wt_gf σ746 108 5)
        have g1409 : 0 ≤ (wt_gf σ746 108 5).toInt ∧ (wt_gf σ746 108 5).toInt ≤ 3 := wt_R_gf rσ746 3 rfl
        have tt1410 : (wt_gf σ746 108 5).toInt = (wt_gf σ745 108 5).toInt := congrArg Int32.toInt (fσ746.1 108 5 (by (try dsimp only); omega))
        have bb1411 := wt_bd (wt_gf σ745 108 5)
        have g1412 : 0 ≤ (wt_gf σ745 108 5).toInt ∧ (wt_gf σ745 108 5).toInt ≤ 3 := wt_R_gf rσ745 3 rfl
        have tt1413 : (wt_gf σ745 108 5).toInt = (wt_gf r734 108 5).toInt := congrArg Int32.toInt (fσ745.1 108 5 (by (try dsimp only); omega))
        exact ⟨wt_fr.rf, rσ746⟩
      · skip
        have bb1414 := wt_bd (wt_gf σ746 108 27)
        have g1415 : 0 ≤ (wt_gf σ746 108 27).toInt ∧ (wt_gf σ746 108 27).toInt ≤ 60 := wt_R_gf rσ746 5 rfl
        have tt1416 : (wt_gf σ746 108 27).toInt = (wt_gf σ745 108 27).toInt := congrArg Int32.toInt (fσ746.1 108 27 (by (try dsimp only); omega))
        have bb1417 := wt_bd (wt_gf σ745 108 27)
        have g1418 : 0 ≤ (wt_gf σ745 108 27).toInt ∧ (wt_gf σ745 108 27).toInt ≤ 60 := wt_R_gf rσ745 5 rfl
        have bb1419 := wt_bd (wt_gf σ746 108 5)
        have g1420 : 0 ≤ (wt_gf σ746 108 5).toInt ∧ (wt_gf σ746 108 5).toInt ≤ 3 := wt_R_gf rσ746 3 rfl
        have tt1421 : (wt_gf σ746 108 5).toInt = (wt_gf σ745 108 5).toInt := congrArg Int32.toInt (fσ746.1 108 5 (by (try dsimp only); omega))
        have bb1422 := wt_bd (wt_gf σ745 108 5)
        have g1423 : 0 ≤ (wt_gf σ745 108 5).toInt ∧ (wt_gf σ745 108 5).toInt ≤ 3 := wt_R_gf rσ745 3 rfl
        have tt1424 : (wt_gf σ745 108 5).toInt = (wt_gf r734 108 5).toInt := congrArg Int32.toInt (fσ745.1 108 5 (by (try dsimp only); omega))
        show (4 * (60 - (wt_gf σ746 108 27).toInt) + 3 - (wt_gf σ746 108 5).toInt).toNat < n
        omega
    · skip
      have c1425 := wt_nceq h732
      refine wt_T_some ?_
      have bb1426 := wt_bd (wt_gf r724.2 108 1)
      have g1427 : 0 ≤ (wt_gf r724.2 108 1).toInt ∧ (wt_gf r724.2 108 1).toInt ≤ 500 := wt_R_gf ri727 0 rfl
      have tt1428 : (wt_gf r724.2 108 1).toInt = (wt_gf σ2 108 1).toInt := congrArg Int32.toInt (f726.1 108 1 (by (try dsimp only); omega))
      exact ⟨(wt_fr.tr (wt_fr.tr wt_fr.rf fσ2 (fun i k h => by (try dsimp only at h); exact Or.inl (by omega)) (fun i h => h.elim)) f726 (fun i k h => by (try dsimp only at h); exact Or.inl (by omega)) (fun i h => h.elim)), ri727, (show ((x1.toInt < 0 ∨ (wt_gf σ 108 1).toInt < x1.toInt → (wt_gf r724.2 108 1).toInt = (wt_gf σ 108 1).toInt) ∧ (0 ≤ x1.toInt ∧ x1.toInt ≤ (wt_gf σ 108 1).toInt → (wt_gf r724.2 108 1).toInt = 0)) from by omega)⟩
set_option maxRecDepth 100000 in
set_option maxHeartbeats 4000000 in
theorem wq_md_want (n : Nat) (hn : 4294967297 < n) (x1 : Int32) (x2 : Int32) (x3 : Int32) (x4 : Int32) (σ : wt_St) (r0 : wt_RI σ) : wt_T (wp_md_want n x1 x2 x3 x4 σ) (fun q => wt_fr (fun i k => (i = 108 ∧ k = 0) ∨ (i = 108 ∧ k = 40)) (fun i => (264 ≤ i ∧ i < 274)) σ q.2 ∧ wt_RI q.2) := by
  have bb1 := wt_bd x1
  have bb2 := wt_bd x2
  have bb3 := wt_bd x3
  have bb4 := wt_bd x4
  unfold wp_md_want
  obtain ⟨σ5, eσ5⟩ : ∃ z : wt_St, z = wt_sf σ 108 0 (0 : Int32) := ⟨_, rfl⟩
  rw [← eσ5]
  have fσ5 := wt_fr_sf eσ5
  have vσ5 := wt_ceq (wt_v_sf eσ5)
  have k6 : (0 : Int32).toInt = 0 := by decide
  have rσ5 := wt_RI_fno r0 eσ5 (Or.inr (by decide))
  refine wt_T_bi (wq_md_isText n hn x1 σ5 rσ5) (fun r7 h8 => ?_)
  obtain ⟨e9, pp10⟩ := h8
  have bb11 := wt_bd r7.1
  rw [e9]
  have bb12 := wt_bd (wt_gf σ5 108 39)
  have g13 : 0 ≤ (wt_gf σ5 108 39).toInt ∧ (wt_gf σ5 108 39).toInt ≤ 8 := wt_R_gf rσ5 7 rfl
  have tt14 : (wt_gf σ5 108 39).toInt = (wt_gf σ 108 39).toInt := congrArg Int32.toInt (fσ5.1 108 39 (by (try dsimp only); omega))
  have bb15 := wt_bd (wt_gf σ 108 39)
  have g16 : 0 ≤ (wt_gf σ 108 39).toInt ∧ (wt_gf σ 108 39).toInt ≤ 8 := wt_R_gf r0 7 rfl
  refine wt_T_if (fun h17 => ?_) (fun h17 => ?_)
  · skip
    have c18 := wt_ceq h17
    unfold wp_md_want_B19
    have k19 : (1 : Int32).toInt = 1 := by decide
    refine wt_T_bi (wq_md_bad n hn (1 : Int32) (1 : Int32) σ5 rσ5 (by omega)) (fun r20 h21 => ?_)
    obtain ⟨f22, ri23, pp24⟩ := h21
    have bb25 := wt_bd r20.1
    have bb26 := wt_bd (wt_gf r20.2 108 0)
    have bb27 := wt_bd (wt_gf σ5 108 0)
    refine wt_T_if (fun h28 => ?_) (fun h28 => ?_)
    · skip
      have c29 := wt_ceq h28
      refine wt_T_bi (wq_md_isCopies n hn x2 r20.2 ri23) (fun r30 h31 => ?_)
      obtain ⟨e32, pp33⟩ := h31
      have bb34 := wt_bd r30.1
      rw [e32]
      refine wt_T_if (fun h35 => ?_) (fun h35 => ?_)
      · skip
        have c36 := wt_ceq h35
        unfold wp_md_want_B56
        unfold wp_md_want_B61
        have k37 : (2 : Int32).toInt = 2 := by decide
        refine wt_T_bi (wq_md_bad n hn (1 : Int32) (2 : Int32) r20.2 ri23 (by omega)) (fun r38 h39 => ?_)
        obtain ⟨f40, ri41, pp42⟩ := h39
        have bb43 := wt_bd r38.1
        have bb44 := wt_bd (wt_gf r38.2 108 0)
        refine wt_T_if (fun h45 => ?_) (fun h45 => ?_)
        · skip
          have c46 := wt_ceq h45
          have bb47 := wt_bd (wt_gf r38.2 108 40)
          have g48 : 0 ≤ (wt_gf r38.2 108 40).toInt ∧ (wt_gf r38.2 108 40).toInt ≤ 10 := wt_R_gf ri41 8 rfl
          have tt49 : (wt_gf r38.2 108 40).toInt = (wt_gf r20.2 108 40).toInt := congrArg Int32.toInt (f40.1 108 40 (by (try dsimp only); omega))
          have bb50 := wt_bd (wt_gf r20.2 108 40)
          have g51 : 0 ≤ (wt_gf r20.2 108 40).toInt ∧ (wt_gf r20.2 108 40).toInt ≤ 10 := wt_R_gf ri23 8 rfl
          have tt52 : (wt_gf r20.2 108 40).toInt = (wt_gf σ5 108 40).toInt := congrArg Int32.toInt (f22.1 108 40 (by (try dsimp only); omega))
          have bb53 := wt_bd (wt_gf σ5 108 40)
          have g54 : 0 ≤ (wt_gf σ5 108 40).toInt ∧ (wt_gf σ5 108 40).toInt ≤ 10 := wt_R_gf rσ5 8 rfl
          have tt55 : (wt_gf σ5 108 40).toInt = (wt_gf σ 108 40).toInt := congrArg Int32.toInt (fσ5.1 108 40 (by (try dsimp only); omega))
          have bb56 := wt_bd (wt_gf σ 108 40)
          have g57 : 0 ≤ (wt_gf σ 108 40).toInt ∧ (wt_gf σ 108 40).toInt ≤ 10 := wt_R_gf r0 8 rfl
          have k58 : (10 : Int32).toInt = 10 := by decide
          refine wt_T_if (fun h59 => ?_) (fun h59 => ?_)
          · skip
            have c60 := wt_ceq h59
            refine wt_T_some ?_
            exact ⟨(wt_fr.tr (wt_fr.tr (wt_fr.tr wt_fr.rf fσ5 (fun i k h => by (try dsimp only at h); exact Or.inl (by omega)) (fun i h => h.elim)) f22 (fun i k h => by (try dsimp only at h); exact Or.inl (by omega)) (fun i h => h.elim)) f40 (fun i k h => by (try dsimp only at h); exact Or.inl (by omega)) (fun i h => h.elim)), ri41⟩
          · skip
            have c61 := wt_nceq h59
            refine wt_T_gd (wt_ix (by omega) (by omega)) ?_
            refine wt_T_gd (wt_ix (by omega) (by omega)) ?_
            obtain ⟨σ62, eσ62⟩ : ∃ z : wt_St, z = wt_sa r38.2 (264 + (Int32.toNatClampNeg (wt_gf r38.2 108 40))) (Int32.toNatClampNeg (0 : Int32)) x1 := ⟨_, rfl⟩
            rw [← eσ62]
            have fσ62 := wt_fr_sa eσ62
            have vσ62 := wt_ceq (wt_v_sa eσ62)
            have bb63 := wt_tn (0 : Int32)
            have bb64 := wt_tn (wt_gf r38.2 108 40)
            have rσ62 := wt_RI_w ri41 eσ62 (by omega) (by omega) (fun _ => ⟨by omega, by omega⟩) (fun h => absurd h (by decide))
            have bb65 := wt_bd (wt_gf σ62 108 40)
            have g66 : 0 ≤ (wt_gf σ62 108 40).toInt ∧ (wt_gf σ62 108 40).toInt ≤ 10 := wt_R_gf rσ62 8 rfl
            have tt67 : (wt_gf σ62 108 40).toInt = (wt_gf r38.2 108 40).toInt := congrArg Int32.toInt (fσ62.1 108 40 (fun z => z))
            refine wt_T_gd (wt_ix (by omega) (by omega)) ?_
            refine wt_T_gd (wt_ix (by omega) (by omega)) ?_
            obtain ⟨σ68, eσ68⟩ : ∃ z : wt_St, z = wt_sa σ62 (264 + (Int32.toNatClampNeg (wt_gf σ62 108 40))) (Int32.toNatClampNeg (1 : Int32)) x2 := ⟨_, rfl⟩
            rw [← eσ68]
            have fσ68 := wt_fr_sa eσ68
            have vσ68 := wt_ceq (wt_v_sa eσ68)
            have bb69 := wt_tn (1 : Int32)
            have bb70 := wt_tn (wt_gf σ62 108 40)
            have rσ68 := wt_RI_w rσ62 eσ68 (by omega) (by omega) (fun h => absurd h (by decide)) (fun _ => ⟨by omega, by omega⟩)
            have bb71 := wt_bd (wt_gf σ68 108 40)
            have g72 : 0 ≤ (wt_gf σ68 108 40).toInt ∧ (wt_gf σ68 108 40).toInt ≤ 10 := wt_R_gf rσ68 8 rfl
            have tt73 : (wt_gf σ68 108 40).toInt = (wt_gf σ62 108 40).toInt := congrArg Int32.toInt (fσ68.1 108 40 (fun z => z))
            refine wt_T_gd (wt_ix (by omega) (by omega)) ?_
            refine wt_T_gd (wt_ix (by omega) (by omega)) ?_
            obtain ⟨σ74, eσ74⟩ : ∃ z : wt_St, z = wt_sa σ68 (264 + (Int32.toNatClampNeg (wt_gf σ68 108 40))) (Int32.toNatClampNeg (2 : Int32)) x3 := ⟨_, rfl⟩
            rw [← eσ74]
            have fσ74 := wt_fr_sa eσ74
            have vσ74 := wt_ceq (wt_v_sa eσ74)
            have bb75 := wt_tn (2 : Int32)
            have bb76 := wt_tn (wt_gf σ68 108 40)
            have rσ74 := wt_RI_w rσ68 eσ74 (by omega) (by omega) (fun h => absurd h (by decide)) (fun h => absurd h (by decide))
            have bb77 := wt_bd (wt_gf σ74 108 40)
            have g78 : 0 ≤ (wt_gf σ74 108 40).toInt ∧ (wt_gf σ74 108 40).toInt ≤ 10 := wt_R_gf rσ74 8 rfl
            have tt79 : (wt_gf σ74 108 40).toInt = (wt_gf σ68 108 40).toInt := congrArg Int32.toInt (fσ74.1 108 40 (fun z => z))
            refine wt_T_gd (wt_ix (by omega) (by omega)) ?_
            have k80 : (3 : Int32).toInt = 3 := by decide
            refine wt_T_gd (wt_ix (by omega) (by omega)) ?_
            obtain ⟨σ81, eσ81⟩ : ∃ z : wt_St, z = wt_sa σ74 (264 + (Int32.toNatClampNeg (wt_gf σ74 108 40))) (Int32.toNatClampNeg (3 : Int32)) x4 := ⟨_, rfl⟩
            rw [← eσ81]
            have fσ81 := wt_fr_sa eσ81
            have vσ81 := wt_ceq (wt_v_sa eσ81)
            have bb82 := wt_tn (3 : Int32)
            have bb83 := wt_tn (wt_gf σ74 108 40)
            have rσ81 := wt_RI_w rσ74 eσ81 (by omega) (by omega) (fun h => absurd h (by decide)) (fun h => absurd h (by decide))
            obtain ⟨σ84, eσ84⟩ : ∃ z : wt_St, z = wt_sf σ81 108 40 ((wt_gf σ81 108 40) + (1 : Int32)) := ⟨_, rfl⟩
            rw [← eσ84]
            have fσ84 := wt_fr_sf eσ84
            have vσ84 := wt_ceq (wt_v_sf eσ84)
            have bb85 := wt_bd (wt_gf σ81 108 40)
            have g86 : 0 ≤ (wt_gf σ81 108 40).toInt ∧ (wt_gf σ81 108 40).toInt ≤ 10 := wt_R_gf rσ81 8 rfl
            have tt87 : (wt_gf σ81 108 40).toInt = (wt_gf σ74 108 40).toInt := congrArg Int32.toInt (fσ81.1 108 40 (fun z => z))
            obtain ⟨j88, j88a, j88b⟩ := wt_addI (wt_gf σ81 108 40) (1 : Int32)
            have rσ84 := wt_RI_fin rσ81 eσ84 8 rfl rfl (show 0 ≤ ((wt_gf σ81 108 40) + (1 : Int32)).toInt by omega) (show ((wt_gf σ81 108 40) + (1 : Int32)).toInt ≤ 10 by omega)
            refine wt_T_some ?_
            exact ⟨(wt_fr.tr (wt_fr.tr (wt_fr.tr (wt_fr.tr (wt_fr.tr (wt_fr.tr (wt_fr.tr (wt_fr.tr wt_fr.rf fσ5 (fun i k h => by (try dsimp only at h); exact Or.inl (by omega)) (fun i h => h.elim)) f22 (fun i k h => by (try dsimp only at h); exact Or.inl (by omega)) (fun i h => h.elim)) f40 (fun i k h => by (try dsimp only at h); exact Or.inl (by omega)) (fun i h => h.elim)) fσ62 (fun i k h => h.elim) (fun i h => by (try dsimp only at h); exact (by omega))) fσ68 (fun i k h => h.elim) (fun i h => by (try dsimp only at h); exact (by omega))) fσ74 (fun i k h => h.elim) (fun i h => by (try dsimp only at h); exact (by omega))) fσ81 (fun i k h => h.elim) (fun i h => by (try dsimp only at h); exact (by omega))) fσ84 (fun i k h => by (try dsimp only at h); exact Or.inr ((by omega))) (fun i h => h.elim)), rσ84⟩
        · skip
          have c89 := wt_nceq h45
          refine wt_T_some ?_
          exact ⟨(wt_fr.tr (wt_fr.tr (wt_fr.tr wt_fr.rf fσ5 (fun i k h => by (try dsimp only at h); exact Or.inl (by omega)) (fun i h => h.elim)) f22 (fun i k h => by (try dsimp only at h); exact Or.inl (by omega)) (fun i h => h.elim)) f40 (fun i k h => by (try dsimp only at h); exact Or.inl (by omega)) (fun i h => h.elim)), ri41⟩
      · skip
        have c90 := wt_nceq h35
        have k91 : (99 : Int32).toInt = 99 := by decide
        refine wt_T_bi (wq_md_in n hn x3 (0 : Int32) (99 : Int32) r20.2 ri23) (fun r92 h93 => ?_)
        obtain ⟨e94, pp95⟩ := h93
        have bb96 := wt_bd r92.1
        rw [e94]
        refine wt_T_if (fun h97 => ?_) (fun h97 => ?_)
        · skip
          have c98 := wt_ceq h97
          unfold wp_md_want_B56
          unfold wp_md_want_B61
          have k99 : (2 : Int32).toInt = 2 := by decide
          refine wt_T_bi (wq_md_bad n hn (1 : Int32) (2 : Int32) r20.2 ri23 (by omega)) (fun r100 h101 => ?_)
          obtain ⟨f102, ri103, pp104⟩ := h101
          have bb105 := wt_bd r100.1
          have bb106 := wt_bd (wt_gf r100.2 108 0)
          refine wt_T_if (fun h107 => ?_) (fun h107 => ?_)
          · skip
            have c108 := wt_ceq h107
            have bb109 := wt_bd (wt_gf r100.2 108 40)
            have g110 : 0 ≤ (wt_gf r100.2 108 40).toInt ∧ (wt_gf r100.2 108 40).toInt ≤ 10 := wt_R_gf ri103 8 rfl
            have tt111 : (wt_gf r100.2 108 40).toInt = (wt_gf r20.2 108 40).toInt := congrArg Int32.toInt (f102.1 108 40 (by (try dsimp only); omega))
            have bb112 := wt_bd (wt_gf r20.2 108 40)
            have g113 : 0 ≤ (wt_gf r20.2 108 40).toInt ∧ (wt_gf r20.2 108 40).toInt ≤ 10 := wt_R_gf ri23 8 rfl
            have tt114 : (wt_gf r20.2 108 40).toInt = (wt_gf σ5 108 40).toInt := congrArg Int32.toInt (f22.1 108 40 (by (try dsimp only); omega))
            have bb115 := wt_bd (wt_gf σ5 108 40)
            have g116 : 0 ≤ (wt_gf σ5 108 40).toInt ∧ (wt_gf σ5 108 40).toInt ≤ 10 := wt_R_gf rσ5 8 rfl
            have tt117 : (wt_gf σ5 108 40).toInt = (wt_gf σ 108 40).toInt := congrArg Int32.toInt (fσ5.1 108 40 (by (try dsimp only); omega))
            have bb118 := wt_bd (wt_gf σ 108 40)
            have g119 : 0 ≤ (wt_gf σ 108 40).toInt ∧ (wt_gf σ 108 40).toInt ≤ 10 := wt_R_gf r0 8 rfl
            have k120 : (10 : Int32).toInt = 10 := by decide
            refine wt_T_if (fun h121 => ?_) (fun h121 => ?_)
            · skip
              have c122 := wt_ceq h121
              refine wt_T_some ?_
              exact ⟨(wt_fr.tr (wt_fr.tr (wt_fr.tr wt_fr.rf fσ5 (fun i k h => by (try dsimp only at h); exact Or.inl (by omega)) (fun i h => h.elim)) f22 (fun i k h => by (try dsimp only at h); exact Or.inl (by omega)) (fun i h => h.elim)) f102 (fun i k h => by (try dsimp only at h); exact Or.inl (by omega)) (fun i h => h.elim)), ri103⟩
            · skip
              have c123 := wt_nceq h121
              refine wt_T_gd (wt_ix (by omega) (by omega)) ?_
              refine wt_T_gd (wt_ix (by omega) (by omega)) ?_
              obtain ⟨σ124, eσ124⟩ : ∃ z : wt_St, z = wt_sa r100.2 (264 + (Int32.toNatClampNeg (wt_gf r100.2 108 40))) (Int32.toNatClampNeg (0 : Int32)) x1 := ⟨_, rfl⟩
              rw [← eσ124]
              have fσ124 := wt_fr_sa eσ124
              have vσ124 := wt_ceq (wt_v_sa eσ124)
              have bb125 := wt_tn (0 : Int32)
              have bb126 := wt_tn (wt_gf r100.2 108 40)
              have rσ124 := wt_RI_w ri103 eσ124 (by omega) (by omega) (fun _ => ⟨by omega, by omega⟩) (fun h => absurd h (by decide))
              have bb127 := wt_bd (wt_gf σ124 108 40)
              have g128 : 0 ≤ (wt_gf σ124 108 40).toInt ∧ (wt_gf σ124 108 40).toInt ≤ 10 := wt_R_gf rσ124 8 rfl
              have tt129 : (wt_gf σ124 108 40).toInt = (wt_gf r100.2 108 40).toInt := congrArg Int32.toInt (fσ124.1 108 40 (fun z => z))
              refine wt_T_gd (wt_ix (by omega) (by omega)) ?_
              refine wt_T_gd (wt_ix (by omega) (by omega)) ?_
              obtain ⟨σ130, eσ130⟩ : ∃ z : wt_St, z = wt_sa σ124 (264 + (Int32.toNatClampNeg (wt_gf σ124 108 40))) (Int32.toNatClampNeg (1 : Int32)) x2 := ⟨_, rfl⟩
              rw [← eσ130]
              have fσ130 := wt_fr_sa eσ130
              have vσ130 := wt_ceq (wt_v_sa eσ130)
              have bb131 := wt_tn (1 : Int32)
              have bb132 := wt_tn (wt_gf σ124 108 40)
              have rσ130 := wt_RI_w rσ124 eσ130 (by omega) (by omega) (fun h => absurd h (by decide)) (fun _ => ⟨by omega, by omega⟩)
              have bb133 := wt_bd (wt_gf σ130 108 40)
              have g134 : 0 ≤ (wt_gf σ130 108 40).toInt ∧ (wt_gf σ130 108 40).toInt ≤ 10 := wt_R_gf rσ130 8 rfl
              have tt135 : (wt_gf σ130 108 40).toInt = (wt_gf σ124 108 40).toInt := congrArg Int32.toInt (fσ130.1 108 40 (fun z => z))
              refine wt_T_gd (wt_ix (by omega) (by omega)) ?_
              refine wt_T_gd (wt_ix (by omega) (by omega)) ?_
              obtain ⟨σ136, eσ136⟩ : ∃ z : wt_St, z = wt_sa σ130 (264 + (Int32.toNatClampNeg (wt_gf σ130 108 40))) (Int32.toNatClampNeg (2 : Int32)) x3 := ⟨_, rfl⟩
              rw [← eσ136]
              have fσ136 := wt_fr_sa eσ136
              have vσ136 := wt_ceq (wt_v_sa eσ136)
              have bb137 := wt_tn (2 : Int32)
              have bb138 := wt_tn (wt_gf σ130 108 40)
              have rσ136 := wt_RI_w rσ130 eσ136 (by omega) (by omega) (fun h => absurd h (by decide)) (fun h => absurd h (by decide))
              have bb139 := wt_bd (wt_gf σ136 108 40)
              have g140 : 0 ≤ (wt_gf σ136 108 40).toInt ∧ (wt_gf σ136 108 40).toInt ≤ 10 := wt_R_gf rσ136 8 rfl
              have tt141 : (wt_gf σ136 108 40).toInt = (wt_gf σ130 108 40).toInt := congrArg Int32.toInt (fσ136.1 108 40 (fun z => z))
              refine wt_T_gd (wt_ix (by omega) (by omega)) ?_
              have k142 : (3 : Int32).toInt = 3 := by decide
              refine wt_T_gd (wt_ix (by omega) (by omega)) ?_
              obtain ⟨σ143, eσ143⟩ : ∃ z : wt_St, z = wt_sa σ136 (264 + (Int32.toNatClampNeg (wt_gf σ136 108 40))) (Int32.toNatClampNeg (3 : Int32)) x4 := ⟨_, rfl⟩
              rw [← eσ143]
              have fσ143 := wt_fr_sa eσ143
              have vσ143 := wt_ceq (wt_v_sa eσ143)
              have bb144 := wt_tn (3 : Int32)
              have bb145 := wt_tn (wt_gf σ136 108 40)
              have rσ143 := wt_RI_w rσ136 eσ143 (by omega) (by omega) (fun h => absurd h (by decide)) (fun h => absurd h (by decide))
              obtain ⟨σ146, eσ146⟩ : ∃ z : wt_St, z = wt_sf σ143 108 40 ((wt_gf σ143 108 40) + (1 : Int32)) := ⟨_, rfl⟩
              rw [← eσ146]
              have fσ146 := wt_fr_sf eσ146
              have vσ146 := wt_ceq (wt_v_sf eσ146)
              have bb147 := wt_bd (wt_gf σ143 108 40)
              have g148 : 0 ≤ (wt_gf σ143 108 40).toInt ∧ (wt_gf σ143 108 40).toInt ≤ 10 := wt_R_gf rσ143 8 rfl
              have tt149 : (wt_gf σ143 108 40).toInt = (wt_gf σ136 108 40).toInt := congrArg Int32.toInt (fσ143.1 108 40 (fun z => z))
              obtain ⟨j150, j150a, j150b⟩ := wt_addI (wt_gf σ143 108 40) (1 : Int32)
              have rσ146 := wt_RI_fin rσ143 eσ146 8 rfl rfl (show 0 ≤ ((wt_gf σ143 108 40) + (1 : Int32)).toInt by omega) (show ((wt_gf σ143 108 40) + (1 : Int32)).toInt ≤ 10 by omega)
              refine wt_T_some ?_
              exact ⟨(wt_fr.tr (wt_fr.tr (wt_fr.tr (wt_fr.tr (wt_fr.tr (wt_fr.tr (wt_fr.tr (wt_fr.tr wt_fr.rf fσ5 (fun i k h => by (try dsimp only at h); exact Or.inl (by omega)) (fun i h => h.elim)) f22 (fun i k h => by (try dsimp only at h); exact Or.inl (by omega)) (fun i h => h.elim)) f102 (fun i k h => by (try dsimp only at h); exact Or.inl (by omega)) (fun i h => h.elim)) fσ124 (fun i k h => h.elim) (fun i h => by (try dsimp only at h); exact (by omega))) fσ130 (fun i k h => h.elim) (fun i h => by (try dsimp only at h); exact (by omega))) fσ136 (fun i k h => h.elim) (fun i h => by (try dsimp only at h); exact (by omega))) fσ143 (fun i k h => h.elim) (fun i h => by (try dsimp only at h); exact (by omega))) fσ146 (fun i k h => by (try dsimp only at h); exact Or.inr ((by omega))) (fun i h => h.elim)), rσ146⟩
          · skip
            have c151 := wt_nceq h107
            refine wt_T_some ?_
            exact ⟨(wt_fr.tr (wt_fr.tr (wt_fr.tr wt_fr.rf fσ5 (fun i k h => by (try dsimp only at h); exact Or.inl (by omega)) (fun i h => h.elim)) f22 (fun i k h => by (try dsimp only at h); exact Or.inl (by omega)) (fun i h => h.elim)) f102 (fun i k h => by (try dsimp only at h); exact Or.inl (by omega)) (fun i h => h.elim)), ri103⟩
        · skip
          have c152 := wt_nceq h97
          have k153 : (999 : Int32).toInt = 999 := by decide
          refine wt_T_bi (wq_md_in n hn x4 (1 : Int32) (999 : Int32) r20.2 ri23) (fun r154 h155 => ?_)
          obtain ⟨e156, pp157⟩ := h155
          have bb158 := wt_bd r154.1
          rw [e156]
          refine wt_T_if (fun h159 => ?_) (fun h159 => ?_)
          · skip
            have c160 := wt_ceq h159
            unfold wp_md_want_B56
            unfold wp_md_want_B61
            have k161 : (2 : Int32).toInt = 2 := by decide
            refine wt_T_bi (wq_md_bad n hn (1 : Int32) (2 : Int32) r20.2 ri23 (by omega)) (fun r162 h163 => ?_)
            obtain ⟨f164, ri165, pp166⟩ := h163
            have bb167 := wt_bd r162.1
            have bb168 := wt_bd (wt_gf r162.2 108 0)
            refine wt_T_if (fun h169 => ?_) (fun h169 => ?_)
            · skip
              have c170 := wt_ceq h169
              have bb171 := wt_bd (wt_gf r162.2 108 40)
              have g172 : 0 ≤ (wt_gf r162.2 108 40).toInt ∧ (wt_gf r162.2 108 40).toInt ≤ 10 := wt_R_gf ri165 8 rfl
              have tt173 : (wt_gf r162.2 108 40).toInt = (wt_gf r20.2 108 40).toInt := congrArg Int32.toInt (f164.1 108 40 (by (try dsimp only); omega))
              have bb174 := wt_bd (wt_gf r20.2 108 40)
              have g175 : 0 ≤ (wt_gf r20.2 108 40).toInt ∧ (wt_gf r20.2 108 40).toInt ≤ 10 := wt_R_gf ri23 8 rfl
              have tt176 : (wt_gf r20.2 108 40).toInt = (wt_gf σ5 108 40).toInt := congrArg Int32.toInt (f22.1 108 40 (by (try dsimp only); omega))
              have bb177 := wt_bd (wt_gf σ5 108 40)
              have g178 : 0 ≤ (wt_gf σ5 108 40).toInt ∧ (wt_gf σ5 108 40).toInt ≤ 10 := wt_R_gf rσ5 8 rfl
              have tt179 : (wt_gf σ5 108 40).toInt = (wt_gf σ 108 40).toInt := congrArg Int32.toInt (fσ5.1 108 40 (by (try dsimp only); omega))
              have bb180 := wt_bd (wt_gf σ 108 40)
              have g181 : 0 ≤ (wt_gf σ 108 40).toInt ∧ (wt_gf σ 108 40).toInt ≤ 10 := wt_R_gf r0 8 rfl
              have k182 : (10 : Int32).toInt = 10 := by decide
              refine wt_T_if (fun h183 => ?_) (fun h183 => ?_)
              · skip
                have c184 := wt_ceq h183
                refine wt_T_some ?_
                exact ⟨(wt_fr.tr (wt_fr.tr (wt_fr.tr wt_fr.rf fσ5 (fun i k h => by (try dsimp only at h); exact Or.inl (by omega)) (fun i h => h.elim)) f22 (fun i k h => by (try dsimp only at h); exact Or.inl (by omega)) (fun i h => h.elim)) f164 (fun i k h => by (try dsimp only at h); exact Or.inl (by omega)) (fun i h => h.elim)), ri165⟩
              · skip
                have c185 := wt_nceq h183
                refine wt_T_gd (wt_ix (by omega) (by omega)) ?_
                refine wt_T_gd (wt_ix (by omega) (by omega)) ?_
                obtain ⟨σ186, eσ186⟩ : ∃ z : wt_St, z = wt_sa r162.2 (264 + (Int32.toNatClampNeg (wt_gf r162.2 108 40))) (Int32.toNatClampNeg (0 : Int32)) x1 := ⟨_, rfl⟩
                rw [← eσ186]
                have fσ186 := wt_fr_sa eσ186
                have vσ186 := wt_ceq (wt_v_sa eσ186)
                have bb187 := wt_tn (0 : Int32)
                have bb188 := wt_tn (wt_gf r162.2 108 40)
                have rσ186 := wt_RI_w ri165 eσ186 (by omega) (by omega) (fun _ => ⟨by omega, by omega⟩) (fun h => absurd h (by decide))
                have bb189 := wt_bd (wt_gf σ186 108 40)
                have g190 : 0 ≤ (wt_gf σ186 108 40).toInt ∧ (wt_gf σ186 108 40).toInt ≤ 10 := wt_R_gf rσ186 8 rfl
                have tt191 : (wt_gf σ186 108 40).toInt = (wt_gf r162.2 108 40).toInt := congrArg Int32.toInt (fσ186.1 108 40 (fun z => z))
                refine wt_T_gd (wt_ix (by omega) (by omega)) ?_
                refine wt_T_gd (wt_ix (by omega) (by omega)) ?_
                obtain ⟨σ192, eσ192⟩ : ∃ z : wt_St, z = wt_sa σ186 (264 + (Int32.toNatClampNeg (wt_gf σ186 108 40))) (Int32.toNatClampNeg (1 : Int32)) x2 := ⟨_, rfl⟩
                rw [← eσ192]
                have fσ192 := wt_fr_sa eσ192
                have vσ192 := wt_ceq (wt_v_sa eσ192)
                have bb193 := wt_tn (1 : Int32)
                have bb194 := wt_tn (wt_gf σ186 108 40)
                have rσ192 := wt_RI_w rσ186 eσ192 (by omega) (by omega) (fun h => absurd h (by decide)) (fun _ => ⟨by omega, by omega⟩)
                have bb195 := wt_bd (wt_gf σ192 108 40)
                have g196 : 0 ≤ (wt_gf σ192 108 40).toInt ∧ (wt_gf σ192 108 40).toInt ≤ 10 := wt_R_gf rσ192 8 rfl
                have tt197 : (wt_gf σ192 108 40).toInt = (wt_gf σ186 108 40).toInt := congrArg Int32.toInt (fσ192.1 108 40 (fun z => z))
                refine wt_T_gd (wt_ix (by omega) (by omega)) ?_
                refine wt_T_gd (wt_ix (by omega) (by omega)) ?_
                obtain ⟨σ198, eσ198⟩ : ∃ z : wt_St, z = wt_sa σ192 (264 + (Int32.toNatClampNeg (wt_gf σ192 108 40))) (Int32.toNatClampNeg (2 : Int32)) x3 := ⟨_, rfl⟩
                rw [← eσ198]
                have fσ198 := wt_fr_sa eσ198
                have vσ198 := wt_ceq (wt_v_sa eσ198)
                have bb199 := wt_tn (2 : Int32)
                have bb200 := wt_tn (wt_gf σ192 108 40)
                have rσ198 := wt_RI_w rσ192 eσ198 (by omega) (by omega) (fun h => absurd h (by decide)) (fun h => absurd h (by decide))
                have bb201 := wt_bd (wt_gf σ198 108 40)
                have g202 : 0 ≤ (wt_gf σ198 108 40).toInt ∧ (wt_gf σ198 108 40).toInt ≤ 10 := wt_R_gf rσ198 8 rfl
                have tt203 : (wt_gf σ198 108 40).toInt = (wt_gf σ192 108 40).toInt := congrArg Int32.toInt (fσ198.1 108 40 (fun z => z))
                refine wt_T_gd (wt_ix (by omega) (by omega)) ?_
                have k204 : (3 : Int32).toInt = 3 := by decide
                refine wt_T_gd (wt_ix (by omega) (by omega)) ?_
                obtain ⟨σ205, eσ205⟩ : ∃ z : wt_St, z = wt_sa σ198 (264 + (Int32.toNatClampNeg (wt_gf σ198 108 40))) (Int32.toNatClampNeg (3 : Int32)) x4 := ⟨_, rfl⟩
                rw [← eσ205]
                have fσ205 := wt_fr_sa eσ205
                have vσ205 := wt_ceq (wt_v_sa eσ205)
                have bb206 := wt_tn (3 : Int32)
                have bb207 := wt_tn (wt_gf σ198 108 40)
                have rσ205 := wt_RI_w rσ198 eσ205 (by omega) (by omega) (fun h => absurd h (by decide)) (fun h => absurd h (by decide))
                obtain ⟨σ208, eσ208⟩ : ∃ z : wt_St, z = wt_sf σ205 108 40 ((wt_gf σ205 108 40) + (1 : Int32)) := ⟨_, rfl⟩
                rw [← eσ208]
                have fσ208 := wt_fr_sf eσ208
                have vσ208 := wt_ceq (wt_v_sf eσ208)
                have bb209 := wt_bd (wt_gf σ205 108 40)
                have g210 : 0 ≤ (wt_gf σ205 108 40).toInt ∧ (wt_gf σ205 108 40).toInt ≤ 10 := wt_R_gf rσ205 8 rfl
                have tt211 : (wt_gf σ205 108 40).toInt = (wt_gf σ198 108 40).toInt := congrArg Int32.toInt (fσ205.1 108 40 (fun z => z))
                obtain ⟨j212, j212a, j212b⟩ := wt_addI (wt_gf σ205 108 40) (1 : Int32)
                have rσ208 := wt_RI_fin rσ205 eσ208 8 rfl rfl (show 0 ≤ ((wt_gf σ205 108 40) + (1 : Int32)).toInt by omega) (show ((wt_gf σ205 108 40) + (1 : Int32)).toInt ≤ 10 by omega)
                refine wt_T_some ?_
                exact ⟨(wt_fr.tr (wt_fr.tr (wt_fr.tr (wt_fr.tr (wt_fr.tr (wt_fr.tr (wt_fr.tr (wt_fr.tr wt_fr.rf fσ5 (fun i k h => by (try dsimp only at h); exact Or.inl (by omega)) (fun i h => h.elim)) f22 (fun i k h => by (try dsimp only at h); exact Or.inl (by omega)) (fun i h => h.elim)) f164 (fun i k h => by (try dsimp only at h); exact Or.inl (by omega)) (fun i h => h.elim)) fσ186 (fun i k h => h.elim) (fun i h => by (try dsimp only at h); exact (by omega))) fσ192 (fun i k h => h.elim) (fun i h => by (try dsimp only at h); exact (by omega))) fσ198 (fun i k h => h.elim) (fun i h => by (try dsimp only at h); exact (by omega))) fσ205 (fun i k h => h.elim) (fun i h => by (try dsimp only at h); exact (by omega))) fσ208 (fun i k h => by (try dsimp only at h); exact Or.inr ((by omega))) (fun i h => h.elim)), rσ208⟩
            · skip
              have c213 := wt_nceq h169
              refine wt_T_some ?_
              exact ⟨(wt_fr.tr (wt_fr.tr (wt_fr.tr wt_fr.rf fσ5 (fun i k h => by (try dsimp only at h); exact Or.inl (by omega)) (fun i h => h.elim)) f22 (fun i k h => by (try dsimp only at h); exact Or.inl (by omega)) (fun i h => h.elim)) f164 (fun i k h => by (try dsimp only at h); exact Or.inl (by omega)) (fun i h => h.elim)), ri165⟩
          · skip
            have c214 := wt_nceq h159
            unfold wp_md_want_B61
            have k215 : (2 : Int32).toInt = 2 := by decide
            refine wt_T_bi (wq_md_bad n hn (0 : Int32) (2 : Int32) r20.2 ri23 (by omega)) (fun r216 h217 => ?_)
            obtain ⟨f218, ri219, pp220⟩ := h217
            have bb221 := wt_bd r216.1
            have bb222 := wt_bd (wt_gf r216.2 108 0)
            refine wt_T_if (fun h223 => ?_) (fun h223 => ?_)
            · skip
              have c224 := wt_ceq h223
              have bb225 := wt_bd (wt_gf r216.2 108 40)
              have g226 : 0 ≤ (wt_gf r216.2 108 40).toInt ∧ (wt_gf r216.2 108 40).toInt ≤ 10 := wt_R_gf ri219 8 rfl
              have tt227 : (wt_gf r216.2 108 40).toInt = (wt_gf r20.2 108 40).toInt := congrArg Int32.toInt (f218.1 108 40 (by (try dsimp only); omega))
              have bb228 := wt_bd (wt_gf r20.2 108 40)
              have g229 : 0 ≤ (wt_gf r20.2 108 40).toInt ∧ (wt_gf r20.2 108 40).toInt ≤ 10 := wt_R_gf ri23 8 rfl
              have tt230 : (wt_gf r20.2 108 40).toInt = (wt_gf σ5 108 40).toInt := congrArg Int32.toInt (f22.1 108 40 (by (try dsimp only); omega))
              have bb231 := wt_bd (wt_gf σ5 108 40)
              have g232 : 0 ≤ (wt_gf σ5 108 40).toInt ∧ (wt_gf σ5 108 40).toInt ≤ 10 := wt_R_gf rσ5 8 rfl
              have tt233 : (wt_gf σ5 108 40).toInt = (wt_gf σ 108 40).toInt := congrArg Int32.toInt (fσ5.1 108 40 (by (try dsimp only); omega))
              have bb234 := wt_bd (wt_gf σ 108 40)
              have g235 : 0 ≤ (wt_gf σ 108 40).toInt ∧ (wt_gf σ 108 40).toInt ≤ 10 := wt_R_gf r0 8 rfl
              have k236 : (10 : Int32).toInt = 10 := by decide
              refine wt_T_if (fun h237 => ?_) (fun h237 => ?_)
              · skip
                have c238 := wt_ceq h237
                refine wt_T_some ?_
                exact ⟨(wt_fr.tr (wt_fr.tr (wt_fr.tr wt_fr.rf fσ5 (fun i k h => by (try dsimp only at h); exact Or.inl (by omega)) (fun i h => h.elim)) f22 (fun i k h => by (try dsimp only at h); exact Or.inl (by omega)) (fun i h => h.elim)) f218 (fun i k h => by (try dsimp only at h); exact Or.inl (by omega)) (fun i h => h.elim)), ri219⟩
              · skip
                have c239 := wt_nceq h237
                refine wt_T_gd (wt_ix (by omega) (by omega)) ?_
                refine wt_T_gd (wt_ix (by omega) (by omega)) ?_
                obtain ⟨σ240, eσ240⟩ : ∃ z : wt_St, z = wt_sa r216.2 (264 + (Int32.toNatClampNeg (wt_gf r216.2 108 40))) (Int32.toNatClampNeg (0 : Int32)) x1 := ⟨_, rfl⟩
                rw [← eσ240]
                have fσ240 := wt_fr_sa eσ240
                have vσ240 := wt_ceq (wt_v_sa eσ240)
                have bb241 := wt_tn (0 : Int32)
                have bb242 := wt_tn (wt_gf r216.2 108 40)
                have rσ240 := wt_RI_w ri219 eσ240 (by omega) (by omega) (fun _ => ⟨by omega, by omega⟩) (fun h => absurd h (by decide))
                have bb243 := wt_bd (wt_gf σ240 108 40)
                have g244 : 0 ≤ (wt_gf σ240 108 40).toInt ∧ (wt_gf σ240 108 40).toInt ≤ 10 := wt_R_gf rσ240 8 rfl
                have tt245 : (wt_gf σ240 108 40).toInt = (wt_gf r216.2 108 40).toInt := congrArg Int32.toInt (fσ240.1 108 40 (fun z => z))
                refine wt_T_gd (wt_ix (by omega) (by omega)) ?_
                refine wt_T_gd (wt_ix (by omega) (by omega)) ?_
                obtain ⟨σ246, eσ246⟩ : ∃ z : wt_St, z = wt_sa σ240 (264 + (Int32.toNatClampNeg (wt_gf σ240 108 40))) (Int32.toNatClampNeg (1 : Int32)) x2 := ⟨_, rfl⟩
                rw [← eσ246]
                have fσ246 := wt_fr_sa eσ246
                have vσ246 := wt_ceq (wt_v_sa eσ246)
                have bb247 := wt_tn (1 : Int32)
                have bb248 := wt_tn (wt_gf σ240 108 40)
                have rσ246 := wt_RI_w rσ240 eσ246 (by omega) (by omega) (fun h => absurd h (by decide)) (fun _ => ⟨by omega, by omega⟩)
                have bb249 := wt_bd (wt_gf σ246 108 40)
                have g250 : 0 ≤ (wt_gf σ246 108 40).toInt ∧ (wt_gf σ246 108 40).toInt ≤ 10 := wt_R_gf rσ246 8 rfl
                have tt251 : (wt_gf σ246 108 40).toInt = (wt_gf σ240 108 40).toInt := congrArg Int32.toInt (fσ246.1 108 40 (fun z => z))
                refine wt_T_gd (wt_ix (by omega) (by omega)) ?_
                refine wt_T_gd (wt_ix (by omega) (by omega)) ?_
                obtain ⟨σ252, eσ252⟩ : ∃ z : wt_St, z = wt_sa σ246 (264 + (Int32.toNatClampNeg (wt_gf σ246 108 40))) (Int32.toNatClampNeg (2 : Int32)) x3 := ⟨_, rfl⟩
                rw [← eσ252]
                have fσ252 := wt_fr_sa eσ252
                have vσ252 := wt_ceq (wt_v_sa eσ252)
                have bb253 := wt_tn (2 : Int32)
                have bb254 := wt_tn (wt_gf σ246 108 40)
                have rσ252 := wt_RI_w rσ246 eσ252 (by omega) (by omega) (fun h => absurd h (by decide)) (fun h => absurd h (by decide))
                have bb255 := wt_bd (wt_gf σ252 108 40)
                have g256 : 0 ≤ (wt_gf σ252 108 40).toInt ∧ (wt_gf σ252 108 40).toInt ≤ 10 := wt_R_gf rσ252 8 rfl
                have tt257 : (wt_gf σ252 108 40).toInt = (wt_gf σ246 108 40).toInt := congrArg Int32.toInt (fσ252.1 108 40 (fun z => z))
                refine wt_T_gd (wt_ix (by omega) (by omega)) ?_
                have k258 : (3 : Int32).toInt = 3 := by decide
                refine wt_T_gd (wt_ix (by omega) (by omega)) ?_
                obtain ⟨σ259, eσ259⟩ : ∃ z : wt_St, z = wt_sa σ252 (264 + (Int32.toNatClampNeg (wt_gf σ252 108 40))) (Int32.toNatClampNeg (3 : Int32)) x4 := ⟨_, rfl⟩
                rw [← eσ259]
                have fσ259 := wt_fr_sa eσ259
                have vσ259 := wt_ceq (wt_v_sa eσ259)
                have bb260 := wt_tn (3 : Int32)
                have bb261 := wt_tn (wt_gf σ252 108 40)
                have rσ259 := wt_RI_w rσ252 eσ259 (by omega) (by omega) (fun h => absurd h (by decide)) (fun h => absurd h (by decide))
                obtain ⟨σ262, eσ262⟩ : ∃ z : wt_St, z = wt_sf σ259 108 40 ((wt_gf σ259 108 40) + (1 : Int32)) := ⟨_, rfl⟩
                rw [← eσ262]
                have fσ262 := wt_fr_sf eσ262
                have vσ262 := wt_ceq (wt_v_sf eσ262)
                have bb263 := wt_bd (wt_gf σ259 108 40)
                have g264 : 0 ≤ (wt_gf σ259 108 40).toInt ∧ (wt_gf σ259 108 40).toInt ≤ 10 := wt_R_gf rσ259 8 rfl
                have tt265 : (wt_gf σ259 108 40).toInt = (wt_gf σ252 108 40).toInt := congrArg Int32.toInt (fσ259.1 108 40 (fun z => z))
                obtain ⟨j266, j266a, j266b⟩ := wt_addI (wt_gf σ259 108 40) (1 : Int32)
                have rσ262 := wt_RI_fin rσ259 eσ262 8 rfl rfl (show 0 ≤ ((wt_gf σ259 108 40) + (1 : Int32)).toInt by omega) (show ((wt_gf σ259 108 40) + (1 : Int32)).toInt ≤ 10 by omega)
                refine wt_T_some ?_
                exact ⟨(wt_fr.tr (wt_fr.tr (wt_fr.tr (wt_fr.tr (wt_fr.tr (wt_fr.tr (wt_fr.tr (wt_fr.tr wt_fr.rf fσ5 (fun i k h => by (try dsimp only at h); exact Or.inl (by omega)) (fun i h => h.elim)) f22 (fun i k h => by (try dsimp only at h); exact Or.inl (by omega)) (fun i h => h.elim)) f218 (fun i k h => by (try dsimp only at h); exact Or.inl (by omega)) (fun i h => h.elim)) fσ240 (fun i k h => h.elim) (fun i h => by (try dsimp only at h); exact (by omega))) fσ246 (fun i k h => h.elim) (fun i h => by (try dsimp only at h); exact (by omega))) fσ252 (fun i k h => h.elim) (fun i h => by (try dsimp only at h); exact (by omega))) fσ259 (fun i k h => h.elim) (fun i h => by (try dsimp only at h); exact (by omega))) fσ262 (fun i k h => by (try dsimp only at h); exact Or.inr ((by omega))) (fun i h => h.elim)), rσ262⟩
            · skip
              have c267 := wt_nceq h223
              refine wt_T_some ?_
              exact ⟨(wt_fr.tr (wt_fr.tr (wt_fr.tr wt_fr.rf fσ5 (fun i k h => by (try dsimp only at h); exact Or.inl (by omega)) (fun i h => h.elim)) f22 (fun i k h => by (try dsimp only at h); exact Or.inl (by omega)) (fun i h => h.elim)) f218 (fun i k h => by (try dsimp only at h); exact Or.inl (by omega)) (fun i h => h.elim)), ri219⟩
    · skip
      have c268 := wt_nceq h28
      refine wt_T_some ?_
      exact ⟨(wt_fr.tr (wt_fr.tr wt_fr.rf fσ5 (fun i k h => by (try dsimp only at h); exact Or.inl (by omega)) (fun i h => h.elim)) f22 (fun i k h => by (try dsimp only at h); exact Or.inl (by omega)) (fun i h => h.elim)), ri23⟩
  · skip
    have c269 := wt_nceq h17
    unfold wp_md_want_B19
    have k270 : (1 : Int32).toInt = 1 := by decide
    refine wt_T_bi (wq_md_bad n hn (0 : Int32) (1 : Int32) σ5 rσ5 (by omega)) (fun r271 h272 => ?_)
    obtain ⟨f273, ri274, pp275⟩ := h272
    have bb276 := wt_bd r271.1
    have bb277 := wt_bd (wt_gf r271.2 108 0)
    have bb278 := wt_bd (wt_gf σ5 108 0)
    refine wt_T_if (fun h279 => ?_) (fun h279 => ?_)
    · skip
      have c280 := wt_ceq h279
      refine wt_T_bi (wq_md_isCopies n hn x2 r271.2 ri274) (fun r281 h282 => ?_)
      obtain ⟨e283, pp284⟩ := h282
      have bb285 := wt_bd r281.1
      rw [e283]
      refine wt_T_if (fun h286 => ?_) (fun h286 => ?_)
      · skip
        have c287 := wt_ceq h286
        unfold wp_md_want_B56
        unfold wp_md_want_B61
        have k288 : (2 : Int32).toInt = 2 := by decide
        refine wt_T_bi (wq_md_bad n hn (1 : Int32) (2 : Int32) r271.2 ri274 (by omega)) (fun r289 h290 => ?_)
        obtain ⟨f291, ri292, pp293⟩ := h290
        have bb294 := wt_bd r289.1
        have bb295 := wt_bd (wt_gf r289.2 108 0)
        refine wt_T_if (fun h296 => ?_) (fun h296 => ?_)
        · skip
          have c297 := wt_ceq h296
          have bb298 := wt_bd (wt_gf r289.2 108 40)
          have g299 : 0 ≤ (wt_gf r289.2 108 40).toInt ∧ (wt_gf r289.2 108 40).toInt ≤ 10 := wt_R_gf ri292 8 rfl
          have tt300 : (wt_gf r289.2 108 40).toInt = (wt_gf r271.2 108 40).toInt := congrArg Int32.toInt (f291.1 108 40 (by (try dsimp only); omega))
          have bb301 := wt_bd (wt_gf r271.2 108 40)
          have g302 : 0 ≤ (wt_gf r271.2 108 40).toInt ∧ (wt_gf r271.2 108 40).toInt ≤ 10 := wt_R_gf ri274 8 rfl
          have tt303 : (wt_gf r271.2 108 40).toInt = (wt_gf σ5 108 40).toInt := congrArg Int32.toInt (f273.1 108 40 (by (try dsimp only); omega))
          have bb304 := wt_bd (wt_gf σ5 108 40)
          have g305 : 0 ≤ (wt_gf σ5 108 40).toInt ∧ (wt_gf σ5 108 40).toInt ≤ 10 := wt_R_gf rσ5 8 rfl
          have tt306 : (wt_gf σ5 108 40).toInt = (wt_gf σ 108 40).toInt := congrArg Int32.toInt (fσ5.1 108 40 (by (try dsimp only); omega))
          have bb307 := wt_bd (wt_gf σ 108 40)
          have g308 : 0 ≤ (wt_gf σ 108 40).toInt ∧ (wt_gf σ 108 40).toInt ≤ 10 := wt_R_gf r0 8 rfl
          have k309 : (10 : Int32).toInt = 10 := by decide
          refine wt_T_if (fun h310 => ?_) (fun h310 => ?_)
          · skip
            have c311 := wt_ceq h310
            refine wt_T_some ?_
            exact ⟨(wt_fr.tr (wt_fr.tr (wt_fr.tr wt_fr.rf fσ5 (fun i k h => by (try dsimp only at h); exact Or.inl (by omega)) (fun i h => h.elim)) f273 (fun i k h => by (try dsimp only at h); exact Or.inl (by omega)) (fun i h => h.elim)) f291 (fun i k h => by (try dsimp only at h); exact Or.inl (by omega)) (fun i h => h.elim)), ri292⟩
          · skip
            have c312 := wt_nceq h310
            refine wt_T_gd (wt_ix (by omega) (by omega)) ?_
            refine wt_T_gd (wt_ix (by omega) (by omega)) ?_
            obtain ⟨σ313, eσ313⟩ : ∃ z : wt_St, z = wt_sa r289.2 (264 + (Int32.toNatClampNeg (wt_gf r289.2 108 40))) (Int32.toNatClampNeg (0 : Int32)) x1 := ⟨_, rfl⟩
            rw [← eσ313]
            have fσ313 := wt_fr_sa eσ313
            have vσ313 := wt_ceq (wt_v_sa eσ313)
            have bb314 := wt_tn (0 : Int32)
            have bb315 := wt_tn (wt_gf r289.2 108 40)
            have rσ313 := wt_RI_w ri292 eσ313 (by omega) (by omega) (fun _ => ⟨by omega, by omega⟩) (fun h => absurd h (by decide))
            have bb316 := wt_bd (wt_gf σ313 108 40)
            have g317 : 0 ≤ (wt_gf σ313 108 40).toInt ∧ (wt_gf σ313 108 40).toInt ≤ 10 := wt_R_gf rσ313 8 rfl
            have tt318 : (wt_gf σ313 108 40).toInt = (wt_gf r289.2 108 40).toInt := congrArg Int32.toInt (fσ313.1 108 40 (fun z => z))
            refine wt_T_gd (wt_ix (by omega) (by omega)) ?_
            refine wt_T_gd (wt_ix (by omega) (by omega)) ?_
            obtain ⟨σ319, eσ319⟩ : ∃ z : wt_St, z = wt_sa σ313 (264 + (Int32.toNatClampNeg (wt_gf σ313 108 40))) (Int32.toNatClampNeg (1 : Int32)) x2 := ⟨_, rfl⟩
            rw [← eσ319]
            have fσ319 := wt_fr_sa eσ319
            have vσ319 := wt_ceq (wt_v_sa eσ319)
            have bb320 := wt_tn (1 : Int32)
            have bb321 := wt_tn (wt_gf σ313 108 40)
            have rσ319 := wt_RI_w rσ313 eσ319 (by omega) (by omega) (fun h => absurd h (by decide)) (fun _ => ⟨by omega, by omega⟩)
            have bb322 := wt_bd (wt_gf σ319 108 40)
            have g323 : 0 ≤ (wt_gf σ319 108 40).toInt ∧ (wt_gf σ319 108 40).toInt ≤ 10 := wt_R_gf rσ319 8 rfl
            have tt324 : (wt_gf σ319 108 40).toInt = (wt_gf σ313 108 40).toInt := congrArg Int32.toInt (fσ319.1 108 40 (fun z => z))
            refine wt_T_gd (wt_ix (by omega) (by omega)) ?_
            refine wt_T_gd (wt_ix (by omega) (by omega)) ?_
            obtain ⟨σ325, eσ325⟩ : ∃ z : wt_St, z = wt_sa σ319 (264 + (Int32.toNatClampNeg (wt_gf σ319 108 40))) (Int32.toNatClampNeg (2 : Int32)) x3 := ⟨_, rfl⟩
            rw [← eσ325]
            have fσ325 := wt_fr_sa eσ325
            have vσ325 := wt_ceq (wt_v_sa eσ325)
            have bb326 := wt_tn (2 : Int32)
            have bb327 := wt_tn (wt_gf σ319 108 40)
            have rσ325 := wt_RI_w rσ319 eσ325 (by omega) (by omega) (fun h => absurd h (by decide)) (fun h => absurd h (by decide))
            have bb328 := wt_bd (wt_gf σ325 108 40)
            have g329 : 0 ≤ (wt_gf σ325 108 40).toInt ∧ (wt_gf σ325 108 40).toInt ≤ 10 := wt_R_gf rσ325 8 rfl
            have tt330 : (wt_gf σ325 108 40).toInt = (wt_gf σ319 108 40).toInt := congrArg Int32.toInt (fσ325.1 108 40 (fun z => z))
            refine wt_T_gd (wt_ix (by omega) (by omega)) ?_
            have k331 : (3 : Int32).toInt = 3 := by decide
            refine wt_T_gd (wt_ix (by omega) (by omega)) ?_
            obtain ⟨σ332, eσ332⟩ : ∃ z : wt_St, z = wt_sa σ325 (264 + (Int32.toNatClampNeg (wt_gf σ325 108 40))) (Int32.toNatClampNeg (3 : Int32)) x4 := ⟨_, rfl⟩
            rw [← eσ332]
            have fσ332 := wt_fr_sa eσ332
            have vσ332 := wt_ceq (wt_v_sa eσ332)
            have bb333 := wt_tn (3 : Int32)
            have bb334 := wt_tn (wt_gf σ325 108 40)
            have rσ332 := wt_RI_w rσ325 eσ332 (by omega) (by omega) (fun h => absurd h (by decide)) (fun h => absurd h (by decide))
            obtain ⟨σ335, eσ335⟩ : ∃ z : wt_St, z = wt_sf σ332 108 40 ((wt_gf σ332 108 40) + (1 : Int32)) := ⟨_, rfl⟩
            rw [← eσ335]
            have fσ335 := wt_fr_sf eσ335
            have vσ335 := wt_ceq (wt_v_sf eσ335)
            have bb336 := wt_bd (wt_gf σ332 108 40)
            have g337 : 0 ≤ (wt_gf σ332 108 40).toInt ∧ (wt_gf σ332 108 40).toInt ≤ 10 := wt_R_gf rσ332 8 rfl
            have tt338 : (wt_gf σ332 108 40).toInt = (wt_gf σ325 108 40).toInt := congrArg Int32.toInt (fσ332.1 108 40 (fun z => z))
            obtain ⟨j339, j339a, j339b⟩ := wt_addI (wt_gf σ332 108 40) (1 : Int32)
            have rσ335 := wt_RI_fin rσ332 eσ335 8 rfl rfl (show 0 ≤ ((wt_gf σ332 108 40) + (1 : Int32)).toInt by omega) (show ((wt_gf σ332 108 40) + (1 : Int32)).toInt ≤ 10 by omega)
            refine wt_T_some ?_
            exact ⟨(wt_fr.tr (wt_fr.tr (wt_fr.tr (wt_fr.tr (wt_fr.tr (wt_fr.tr (wt_fr.tr (wt_fr.tr wt_fr.rf fσ5 (fun i k h => by (try dsimp only at h); exact Or.inl (by omega)) (fun i h => h.elim)) f273 (fun i k h => by (try dsimp only at h); exact Or.inl (by omega)) (fun i h => h.elim)) f291 (fun i k h => by (try dsimp only at h); exact Or.inl (by omega)) (fun i h => h.elim)) fσ313 (fun i k h => h.elim) (fun i h => by (try dsimp only at h); exact (by omega))) fσ319 (fun i k h => h.elim) (fun i h => by (try dsimp only at h); exact (by omega))) fσ325 (fun i k h => h.elim) (fun i h => by (try dsimp only at h); exact (by omega))) fσ332 (fun i k h => h.elim) (fun i h => by (try dsimp only at h); exact (by omega))) fσ335 (fun i k h => by (try dsimp only at h); exact Or.inr ((by omega))) (fun i h => h.elim)), rσ335⟩
        · skip
          have c340 := wt_nceq h296
          refine wt_T_some ?_
          exact ⟨(wt_fr.tr (wt_fr.tr (wt_fr.tr wt_fr.rf fσ5 (fun i k h => by (try dsimp only at h); exact Or.inl (by omega)) (fun i h => h.elim)) f273 (fun i k h => by (try dsimp only at h); exact Or.inl (by omega)) (fun i h => h.elim)) f291 (fun i k h => by (try dsimp only at h); exact Or.inl (by omega)) (fun i h => h.elim)), ri292⟩
      · skip
        have c341 := wt_nceq h286
        have k342 : (99 : Int32).toInt = 99 := by decide
        refine wt_T_bi (wq_md_in n hn x3 (0 : Int32) (99 : Int32) r271.2 ri274) (fun r343 h344 => ?_)
        obtain ⟨e345, pp346⟩ := h344
        have bb347 := wt_bd r343.1
        rw [e345]
        refine wt_T_if (fun h348 => ?_) (fun h348 => ?_)
        · skip
          have c349 := wt_ceq h348
          unfold wp_md_want_B56
          unfold wp_md_want_B61
          have k350 : (2 : Int32).toInt = 2 := by decide
          refine wt_T_bi (wq_md_bad n hn (1 : Int32) (2 : Int32) r271.2 ri274 (by omega)) (fun r351 h352 => ?_)
          obtain ⟨f353, ri354, pp355⟩ := h352
          have bb356 := wt_bd r351.1
          have bb357 := wt_bd (wt_gf r351.2 108 0)
          refine wt_T_if (fun h358 => ?_) (fun h358 => ?_)
          · skip
            have c359 := wt_ceq h358
            have bb360 := wt_bd (wt_gf r351.2 108 40)
            have g361 : 0 ≤ (wt_gf r351.2 108 40).toInt ∧ (wt_gf r351.2 108 40).toInt ≤ 10 := wt_R_gf ri354 8 rfl
            have tt362 : (wt_gf r351.2 108 40).toInt = (wt_gf r271.2 108 40).toInt := congrArg Int32.toInt (f353.1 108 40 (by (try dsimp only); omega))
            have bb363 := wt_bd (wt_gf r271.2 108 40)
            have g364 : 0 ≤ (wt_gf r271.2 108 40).toInt ∧ (wt_gf r271.2 108 40).toInt ≤ 10 := wt_R_gf ri274 8 rfl
            have tt365 : (wt_gf r271.2 108 40).toInt = (wt_gf σ5 108 40).toInt := congrArg Int32.toInt (f273.1 108 40 (by (try dsimp only); omega))
            have bb366 := wt_bd (wt_gf σ5 108 40)
            have g367 : 0 ≤ (wt_gf σ5 108 40).toInt ∧ (wt_gf σ5 108 40).toInt ≤ 10 := wt_R_gf rσ5 8 rfl
            have tt368 : (wt_gf σ5 108 40).toInt = (wt_gf σ 108 40).toInt := congrArg Int32.toInt (fσ5.1 108 40 (by (try dsimp only); omega))
            have bb369 := wt_bd (wt_gf σ 108 40)
            have g370 : 0 ≤ (wt_gf σ 108 40).toInt ∧ (wt_gf σ 108 40).toInt ≤ 10 := wt_R_gf r0 8 rfl
            have k371 : (10 : Int32).toInt = 10 := by decide
            refine wt_T_if (fun h372 => ?_) (fun h372 => ?_)
            · skip
              have c373 := wt_ceq h372
              refine wt_T_some ?_
              exact ⟨(wt_fr.tr (wt_fr.tr (wt_fr.tr wt_fr.rf fσ5 (fun i k h => by (try dsimp only at h); exact Or.inl (by omega)) (fun i h => h.elim)) f273 (fun i k h => by (try dsimp only at h); exact Or.inl (by omega)) (fun i h => h.elim)) f353 (fun i k h => by (try dsimp only at h); exact Or.inl (by omega)) (fun i h => h.elim)), ri354⟩
            · skip
              have c374 := wt_nceq h372
              refine wt_T_gd (wt_ix (by omega) (by omega)) ?_
              refine wt_T_gd (wt_ix (by omega) (by omega)) ?_
              obtain ⟨σ375, eσ375⟩ : ∃ z : wt_St, z = wt_sa r351.2 (264 + (Int32.toNatClampNeg (wt_gf r351.2 108 40))) (Int32.toNatClampNeg (0 : Int32)) x1 := ⟨_, rfl⟩
              rw [← eσ375]
              have fσ375 := wt_fr_sa eσ375
              have vσ375 := wt_ceq (wt_v_sa eσ375)
              have bb376 := wt_tn (0 : Int32)
              have bb377 := wt_tn (wt_gf r351.2 108 40)
              have rσ375 := wt_RI_w ri354 eσ375 (by omega) (by omega) (fun _ => ⟨by omega, by omega⟩) (fun h => absurd h (by decide))
              have bb378 := wt_bd (wt_gf σ375 108 40)
              have g379 : 0 ≤ (wt_gf σ375 108 40).toInt ∧ (wt_gf σ375 108 40).toInt ≤ 10 := wt_R_gf rσ375 8 rfl
              have tt380 : (wt_gf σ375 108 40).toInt = (wt_gf r351.2 108 40).toInt := congrArg Int32.toInt (fσ375.1 108 40 (fun z => z))
              refine wt_T_gd (wt_ix (by omega) (by omega)) ?_
              refine wt_T_gd (wt_ix (by omega) (by omega)) ?_
              obtain ⟨σ381, eσ381⟩ : ∃ z : wt_St, z = wt_sa σ375 (264 + (Int32.toNatClampNeg (wt_gf σ375 108 40))) (Int32.toNatClampNeg (1 : Int32)) x2 := ⟨_, rfl⟩
              rw [← eσ381]
              have fσ381 := wt_fr_sa eσ381
              have vσ381 := wt_ceq (wt_v_sa eσ381)
              have bb382 := wt_tn (1 : Int32)
              have bb383 := wt_tn (wt_gf σ375 108 40)
              have rσ381 := wt_RI_w rσ375 eσ381 (by omega) (by omega) (fun h => absurd h (by decide)) (fun _ => ⟨by omega, by omega⟩)
              have bb384 := wt_bd (wt_gf σ381 108 40)
              have g385 : 0 ≤ (wt_gf σ381 108 40).toInt ∧ (wt_gf σ381 108 40).toInt ≤ 10 := wt_R_gf rσ381 8 rfl
              have tt386 : (wt_gf σ381 108 40).toInt = (wt_gf σ375 108 40).toInt := congrArg Int32.toInt (fσ381.1 108 40 (fun z => z))
              refine wt_T_gd (wt_ix (by omega) (by omega)) ?_
              refine wt_T_gd (wt_ix (by omega) (by omega)) ?_
              obtain ⟨σ387, eσ387⟩ : ∃ z : wt_St, z = wt_sa σ381 (264 + (Int32.toNatClampNeg (wt_gf σ381 108 40))) (Int32.toNatClampNeg (2 : Int32)) x3 := ⟨_, rfl⟩
              rw [← eσ387]
              have fσ387 := wt_fr_sa eσ387
              have vσ387 := wt_ceq (wt_v_sa eσ387)
              have bb388 := wt_tn (2 : Int32)
              have bb389 := wt_tn (wt_gf σ381 108 40)
              have rσ387 := wt_RI_w rσ381 eσ387 (by omega) (by omega) (fun h => absurd h (by decide)) (fun h => absurd h (by decide))
              have bb390 := wt_bd (wt_gf σ387 108 40)
              have g391 : 0 ≤ (wt_gf σ387 108 40).toInt ∧ (wt_gf σ387 108 40).toInt ≤ 10 := wt_R_gf rσ387 8 rfl
              have tt392 : (wt_gf σ387 108 40).toInt = (wt_gf σ381 108 40).toInt := congrArg Int32.toInt (fσ387.1 108 40 (fun z => z))
              refine wt_T_gd (wt_ix (by omega) (by omega)) ?_
              have k393 : (3 : Int32).toInt = 3 := by decide
              refine wt_T_gd (wt_ix (by omega) (by omega)) ?_
              obtain ⟨σ394, eσ394⟩ : ∃ z : wt_St, z = wt_sa σ387 (264 + (Int32.toNatClampNeg (wt_gf σ387 108 40))) (Int32.toNatClampNeg (3 : Int32)) x4 := ⟨_, rfl⟩
              rw [← eσ394]
              have fσ394 := wt_fr_sa eσ394
              have vσ394 := wt_ceq (wt_v_sa eσ394)
              have bb395 := wt_tn (3 : Int32)
              have bb396 := wt_tn (wt_gf σ387 108 40)
              have rσ394 := wt_RI_w rσ387 eσ394 (by omega) (by omega) (fun h => absurd h (by decide)) (fun h => absurd h (by decide))
              obtain ⟨σ397, eσ397⟩ : ∃ z : wt_St, z = wt_sf σ394 108 40 ((wt_gf σ394 108 40) + (1 : Int32)) := ⟨_, rfl⟩
              rw [← eσ397]
              have fσ397 := wt_fr_sf eσ397
              have vσ397 := wt_ceq (wt_v_sf eσ397)
              have bb398 := wt_bd (wt_gf σ394 108 40)
              have g399 : 0 ≤ (wt_gf σ394 108 40).toInt ∧ (wt_gf σ394 108 40).toInt ≤ 10 := wt_R_gf rσ394 8 rfl
              have tt400 : (wt_gf σ394 108 40).toInt = (wt_gf σ387 108 40).toInt := congrArg Int32.toInt (fσ394.1 108 40 (fun z => z))
              obtain ⟨j401, j401a, j401b⟩ := wt_addI (wt_gf σ394 108 40) (1 : Int32)
              have rσ397 := wt_RI_fin rσ394 eσ397 8 rfl rfl (show 0 ≤ ((wt_gf σ394 108 40) + (1 : Int32)).toInt by omega) (show ((wt_gf σ394 108 40) + (1 : Int32)).toInt ≤ 10 by omega)
              refine wt_T_some ?_
              exact ⟨(wt_fr.tr (wt_fr.tr (wt_fr.tr (wt_fr.tr (wt_fr.tr (wt_fr.tr (wt_fr.tr (wt_fr.tr wt_fr.rf fσ5 (fun i k h => by (try dsimp only at h); exact Or.inl (by omega)) (fun i h => h.elim)) f273 (fun i k h => by (try dsimp only at h); exact Or.inl (by omega)) (fun i h => h.elim)) f353 (fun i k h => by (try dsimp only at h); exact Or.inl (by omega)) (fun i h => h.elim)) fσ375 (fun i k h => h.elim) (fun i h => by (try dsimp only at h); exact (by omega))) fσ381 (fun i k h => h.elim) (fun i h => by (try dsimp only at h); exact (by omega))) fσ387 (fun i k h => h.elim) (fun i h => by (try dsimp only at h); exact (by omega))) fσ394 (fun i k h => h.elim) (fun i h => by (try dsimp only at h); exact (by omega))) fσ397 (fun i k h => by (try dsimp only at h); exact Or.inr ((by omega))) (fun i h => h.elim)), rσ397⟩
          · skip
            have c402 := wt_nceq h358
            refine wt_T_some ?_
            exact ⟨(wt_fr.tr (wt_fr.tr (wt_fr.tr wt_fr.rf fσ5 (fun i k h => by (try dsimp only at h); exact Or.inl (by omega)) (fun i h => h.elim)) f273 (fun i k h => by (try dsimp only at h); exact Or.inl (by omega)) (fun i h => h.elim)) f353 (fun i k h => by (try dsimp only at h); exact Or.inl (by omega)) (fun i h => h.elim)), ri354⟩
        · skip
          have c403 := wt_nceq h348
          have k404 : (999 : Int32).toInt = 999 := by decide
          refine wt_T_bi (wq_md_in n hn x4 (1 : Int32) (999 : Int32) r271.2 ri274) (fun r405 h406 => ?_)
          obtain ⟨e407, pp408⟩ := h406
          have bb409 := wt_bd r405.1
          rw [e407]
          refine wt_T_if (fun h410 => ?_) (fun h410 => ?_)
          · skip
            have c411 := wt_ceq h410
            unfold wp_md_want_B56
            unfold wp_md_want_B61
            have k412 : (2 : Int32).toInt = 2 := by decide
            refine wt_T_bi (wq_md_bad n hn (1 : Int32) (2 : Int32) r271.2 ri274 (by omega)) (fun r413 h414 => ?_)
            obtain ⟨f415, ri416, pp417⟩ := h414
            have bb418 := wt_bd r413.1
            have bb419 := wt_bd (wt_gf r413.2 108 0)
            refine wt_T_if (fun h420 => ?_) (fun h420 => ?_)
            · skip
              have c421 := wt_ceq h420
              have bb422 := wt_bd (wt_gf r413.2 108 40)
              have g423 : 0 ≤ (wt_gf r413.2 108 40).toInt ∧ (wt_gf r413.2 108 40).toInt ≤ 10 := wt_R_gf ri416 8 rfl
              have tt424 : (wt_gf r413.2 108 40).toInt = (wt_gf r271.2 108 40).toInt := congrArg Int32.toInt (f415.1 108 40 (by (try dsimp only); omega))
              have bb425 := wt_bd (wt_gf r271.2 108 40)
              have g426 : 0 ≤ (wt_gf r271.2 108 40).toInt ∧ (wt_gf r271.2 108 40).toInt ≤ 10 := wt_R_gf ri274 8 rfl
              have tt427 : (wt_gf r271.2 108 40).toInt = (wt_gf σ5 108 40).toInt := congrArg Int32.toInt (f273.1 108 40 (by (try dsimp only); omega))
              have bb428 := wt_bd (wt_gf σ5 108 40)
              have g429 : 0 ≤ (wt_gf σ5 108 40).toInt ∧ (wt_gf σ5 108 40).toInt ≤ 10 := wt_R_gf rσ5 8 rfl
              have tt430 : (wt_gf σ5 108 40).toInt = (wt_gf σ 108 40).toInt := congrArg Int32.toInt (fσ5.1 108 40 (by (try dsimp only); omega))
              have bb431 := wt_bd (wt_gf σ 108 40)
              have g432 : 0 ≤ (wt_gf σ 108 40).toInt ∧ (wt_gf σ 108 40).toInt ≤ 10 := wt_R_gf r0 8 rfl
              have k433 : (10 : Int32).toInt = 10 := by decide
              refine wt_T_if (fun h434 => ?_) (fun h434 => ?_)
              · skip
                have c435 := wt_ceq h434
                refine wt_T_some ?_
                exact ⟨(wt_fr.tr (wt_fr.tr (wt_fr.tr wt_fr.rf fσ5 (fun i k h => by (try dsimp only at h); exact Or.inl (by omega)) (fun i h => h.elim)) f273 (fun i k h => by (try dsimp only at h); exact Or.inl (by omega)) (fun i h => h.elim)) f415 (fun i k h => by (try dsimp only at h); exact Or.inl (by omega)) (fun i h => h.elim)), ri416⟩
              · skip
                have c436 := wt_nceq h434
                refine wt_T_gd (wt_ix (by omega) (by omega)) ?_
                refine wt_T_gd (wt_ix (by omega) (by omega)) ?_
                obtain ⟨σ437, eσ437⟩ : ∃ z : wt_St, z = wt_sa r413.2 (264 + (Int32.toNatClampNeg (wt_gf r413.2 108 40))) (Int32.toNatClampNeg (0 : Int32)) x1 := ⟨_, rfl⟩
                rw [← eσ437]
                have fσ437 := wt_fr_sa eσ437
                have vσ437 := wt_ceq (wt_v_sa eσ437)
                have bb438 := wt_tn (0 : Int32)
                have bb439 := wt_tn (wt_gf r413.2 108 40)
                have rσ437 := wt_RI_w ri416 eσ437 (by omega) (by omega) (fun _ => ⟨by omega, by omega⟩) (fun h => absurd h (by decide))
                have bb440 := wt_bd (wt_gf σ437 108 40)
                have g441 : 0 ≤ (wt_gf σ437 108 40).toInt ∧ (wt_gf σ437 108 40).toInt ≤ 10 := wt_R_gf rσ437 8 rfl
                have tt442 : (wt_gf σ437 108 40).toInt = (wt_gf r413.2 108 40).toInt := congrArg Int32.toInt (fσ437.1 108 40 (fun z => z))
                refine wt_T_gd (wt_ix (by omega) (by omega)) ?_
                refine wt_T_gd (wt_ix (by omega) (by omega)) ?_
                obtain ⟨σ443, eσ443⟩ : ∃ z : wt_St, z = wt_sa σ437 (264 + (Int32.toNatClampNeg (wt_gf σ437 108 40))) (Int32.toNatClampNeg (1 : Int32)) x2 := ⟨_, rfl⟩
                rw [← eσ443]
                have fσ443 := wt_fr_sa eσ443
                have vσ443 := wt_ceq (wt_v_sa eσ443)
                have bb444 := wt_tn (1 : Int32)
                have bb445 := wt_tn (wt_gf σ437 108 40)
                have rσ443 := wt_RI_w rσ437 eσ443 (by omega) (by omega) (fun h => absurd h (by decide)) (fun _ => ⟨by omega, by omega⟩)
                have bb446 := wt_bd (wt_gf σ443 108 40)
                have g447 : 0 ≤ (wt_gf σ443 108 40).toInt ∧ (wt_gf σ443 108 40).toInt ≤ 10 := wt_R_gf rσ443 8 rfl
                have tt448 : (wt_gf σ443 108 40).toInt = (wt_gf σ437 108 40).toInt := congrArg Int32.toInt (fσ443.1 108 40 (fun z => z))
                refine wt_T_gd (wt_ix (by omega) (by omega)) ?_
                refine wt_T_gd (wt_ix (by omega) (by omega)) ?_
                obtain ⟨σ449, eσ449⟩ : ∃ z : wt_St, z = wt_sa σ443 (264 + (Int32.toNatClampNeg (wt_gf σ443 108 40))) (Int32.toNatClampNeg (2 : Int32)) x3 := ⟨_, rfl⟩
                rw [← eσ449]
                have fσ449 := wt_fr_sa eσ449
                have vσ449 := wt_ceq (wt_v_sa eσ449)
                have bb450 := wt_tn (2 : Int32)
                have bb451 := wt_tn (wt_gf σ443 108 40)
                have rσ449 := wt_RI_w rσ443 eσ449 (by omega) (by omega) (fun h => absurd h (by decide)) (fun h => absurd h (by decide))
                have bb452 := wt_bd (wt_gf σ449 108 40)
                have g453 : 0 ≤ (wt_gf σ449 108 40).toInt ∧ (wt_gf σ449 108 40).toInt ≤ 10 := wt_R_gf rσ449 8 rfl
                have tt454 : (wt_gf σ449 108 40).toInt = (wt_gf σ443 108 40).toInt := congrArg Int32.toInt (fσ449.1 108 40 (fun z => z))
                refine wt_T_gd (wt_ix (by omega) (by omega)) ?_
                have k455 : (3 : Int32).toInt = 3 := by decide
                refine wt_T_gd (wt_ix (by omega) (by omega)) ?_
                obtain ⟨σ456, eσ456⟩ : ∃ z : wt_St, z = wt_sa σ449 (264 + (Int32.toNatClampNeg (wt_gf σ449 108 40))) (Int32.toNatClampNeg (3 : Int32)) x4 := ⟨_, rfl⟩
                rw [← eσ456]
                have fσ456 := wt_fr_sa eσ456
                have vσ456 := wt_ceq (wt_v_sa eσ456)
                have bb457 := wt_tn (3 : Int32)
                have bb458 := wt_tn (wt_gf σ449 108 40)
                have rσ456 := wt_RI_w rσ449 eσ456 (by omega) (by omega) (fun h => absurd h (by decide)) (fun h => absurd h (by decide))
                obtain ⟨σ459, eσ459⟩ : ∃ z : wt_St, z = wt_sf σ456 108 40 ((wt_gf σ456 108 40) + (1 : Int32)) := ⟨_, rfl⟩
                rw [← eσ459]
                have fσ459 := wt_fr_sf eσ459
                have vσ459 := wt_ceq (wt_v_sf eσ459)
                have bb460 := wt_bd (wt_gf σ456 108 40)
                have g461 : 0 ≤ (wt_gf σ456 108 40).toInt ∧ (wt_gf σ456 108 40).toInt ≤ 10 := wt_R_gf rσ456 8 rfl
                have tt462 : (wt_gf σ456 108 40).toInt = (wt_gf σ449 108 40).toInt := congrArg Int32.toInt (fσ456.1 108 40 (fun z => z))
                obtain ⟨j463, j463a, j463b⟩ := wt_addI (wt_gf σ456 108 40) (1 : Int32)
                have rσ459 := wt_RI_fin rσ456 eσ459 8 rfl rfl (show 0 ≤ ((wt_gf σ456 108 40) + (1 : Int32)).toInt by omega) (show ((wt_gf σ456 108 40) + (1 : Int32)).toInt ≤ 10 by omega)
                refine wt_T_some ?_
                exact ⟨(wt_fr.tr (wt_fr.tr (wt_fr.tr (wt_fr.tr (wt_fr.tr (wt_fr.tr (wt_fr.tr (wt_fr.tr wt_fr.rf fσ5 (fun i k h => by (try dsimp only at h); exact Or.inl (by omega)) (fun i h => h.elim)) f273 (fun i k h => by (try dsimp only at h); exact Or.inl (by omega)) (fun i h => h.elim)) f415 (fun i k h => by (try dsimp only at h); exact Or.inl (by omega)) (fun i h => h.elim)) fσ437 (fun i k h => h.elim) (fun i h => by (try dsimp only at h); exact (by omega))) fσ443 (fun i k h => h.elim) (fun i h => by (try dsimp only at h); exact (by omega))) fσ449 (fun i k h => h.elim) (fun i h => by (try dsimp only at h); exact (by omega))) fσ456 (fun i k h => h.elim) (fun i h => by (try dsimp only at h); exact (by omega))) fσ459 (fun i k h => by (try dsimp only at h); exact Or.inr ((by omega))) (fun i h => h.elim)), rσ459⟩
            · skip
              have c464 := wt_nceq h420
              refine wt_T_some ?_
              exact ⟨(wt_fr.tr (wt_fr.tr (wt_fr.tr wt_fr.rf fσ5 (fun i k h => by (try dsimp only at h); exact Or.inl (by omega)) (fun i h => h.elim)) f273 (fun i k h => by (try dsimp only at h); exact Or.inl (by omega)) (fun i h => h.elim)) f415 (fun i k h => by (try dsimp only at h); exact Or.inl (by omega)) (fun i h => h.elim)), ri416⟩
          · skip
            have c465 := wt_nceq h410
            unfold wp_md_want_B61
            have k466 : (2 : Int32).toInt = 2 := by decide
            refine wt_T_bi (wq_md_bad n hn (0 : Int32) (2 : Int32) r271.2 ri274 (by omega)) (fun r467 h468 => ?_)
            obtain ⟨f469, ri470, pp471⟩ := h468
            have bb472 := wt_bd r467.1
            have bb473 := wt_bd (wt_gf r467.2 108 0)
            refine wt_T_if (fun h474 => ?_) (fun h474 => ?_)
            · skip
              have c475 := wt_ceq h474
              have bb476 := wt_bd (wt_gf r467.2 108 40)
              have g477 : 0 ≤ (wt_gf r467.2 108 40).toInt ∧ (wt_gf r467.2 108 40).toInt ≤ 10 := wt_R_gf ri470 8 rfl
              have tt478 : (wt_gf r467.2 108 40).toInt = (wt_gf r271.2 108 40).toInt := congrArg Int32.toInt (f469.1 108 40 (by (try dsimp only); omega))
              have bb479 := wt_bd (wt_gf r271.2 108 40)
              have g480 : 0 ≤ (wt_gf r271.2 108 40).toInt ∧ (wt_gf r271.2 108 40).toInt ≤ 10 := wt_R_gf ri274 8 rfl
              have tt481 : (wt_gf r271.2 108 40).toInt = (wt_gf σ5 108 40).toInt := congrArg Int32.toInt (f273.1 108 40 (by (try dsimp only); omega))
              have bb482 := wt_bd (wt_gf σ5 108 40)
              have g483 : 0 ≤ (wt_gf σ5 108 40).toInt ∧ (wt_gf σ5 108 40).toInt ≤ 10 := wt_R_gf rσ5 8 rfl
              have tt484 : (wt_gf σ5 108 40).toInt = (wt_gf σ 108 40).toInt := congrArg Int32.toInt (fσ5.1 108 40 (by (try dsimp only); omega))
              have bb485 := wt_bd (wt_gf σ 108 40)
              have g486 : 0 ≤ (wt_gf σ 108 40).toInt ∧ (wt_gf σ 108 40).toInt ≤ 10 := wt_R_gf r0 8 rfl
              have k487 : (10 : Int32).toInt = 10 := by decide
              refine wt_T_if (fun h488 => ?_) (fun h488 => ?_)
              · skip
                have c489 := wt_ceq h488
                refine wt_T_some ?_
                exact ⟨(wt_fr.tr (wt_fr.tr (wt_fr.tr wt_fr.rf fσ5 (fun i k h => by (try dsimp only at h); exact Or.inl (by omega)) (fun i h => h.elim)) f273 (fun i k h => by (try dsimp only at h); exact Or.inl (by omega)) (fun i h => h.elim)) f469 (fun i k h => by (try dsimp only at h); exact Or.inl (by omega)) (fun i h => h.elim)), ri470⟩
              · skip
                have c490 := wt_nceq h488
                refine wt_T_gd (wt_ix (by omega) (by omega)) ?_
                refine wt_T_gd (wt_ix (by omega) (by omega)) ?_
                obtain ⟨σ491, eσ491⟩ : ∃ z : wt_St, z = wt_sa r467.2 (264 + (Int32.toNatClampNeg (wt_gf r467.2 108 40))) (Int32.toNatClampNeg (0 : Int32)) x1 := ⟨_, rfl⟩
                rw [← eσ491]
                have fσ491 := wt_fr_sa eσ491
                have vσ491 := wt_ceq (wt_v_sa eσ491)
                have bb492 := wt_tn (0 : Int32)
                have bb493 := wt_tn (wt_gf r467.2 108 40)
                have rσ491 := wt_RI_w ri470 eσ491 (by omega) (by omega) (fun _ => ⟨by omega, by omega⟩) (fun h => absurd h (by decide))
                have bb494 := wt_bd (wt_gf σ491 108 40)
                have g495 : 0 ≤ (wt_gf σ491 108 40).toInt ∧ (wt_gf σ491 108 40).toInt ≤ 10 := wt_R_gf rσ491 8 rfl
                have tt496 : (wt_gf σ491 108 40).toInt = (wt_gf r467.2 108 40).toInt := congrArg Int32.toInt (fσ491.1 108 40 (fun z => z))
                refine wt_T_gd (wt_ix (by omega) (by omega)) ?_
                refine wt_T_gd (wt_ix (by omega) (by omega)) ?_
                obtain ⟨σ497, eσ497⟩ : ∃ z : wt_St, z = wt_sa σ491 (264 + (Int32.toNatClampNeg (wt_gf σ491 108 40))) (Int32.toNatClampNeg (1 : Int32)) x2 := ⟨_, rfl⟩
                rw [← eσ497]
                have fσ497 := wt_fr_sa eσ497
                have vσ497 := wt_ceq (wt_v_sa eσ497)
                have bb498 := wt_tn (1 : Int32)
                have bb499 := wt_tn (wt_gf σ491 108 40)
                have rσ497 := wt_RI_w rσ491 eσ497 (by omega) (by omega) (fun h => absurd h (by decide)) (fun _ => ⟨by omega, by omega⟩)
                have bb500 := wt_bd (wt_gf σ497 108 40)
                have g501 : 0 ≤ (wt_gf σ497 108 40).toInt ∧ (wt_gf σ497 108 40).toInt ≤ 10 := wt_R_gf rσ497 8 rfl
                have tt502 : (wt_gf σ497 108 40).toInt = (wt_gf σ491 108 40).toInt := congrArg Int32.toInt (fσ497.1 108 40 (fun z => z))
                refine wt_T_gd (wt_ix (by omega) (by omega)) ?_
                refine wt_T_gd (wt_ix (by omega) (by omega)) ?_
                obtain ⟨σ503, eσ503⟩ : ∃ z : wt_St, z = wt_sa σ497 (264 + (Int32.toNatClampNeg (wt_gf σ497 108 40))) (Int32.toNatClampNeg (2 : Int32)) x3 := ⟨_, rfl⟩
                rw [← eσ503]
                have fσ503 := wt_fr_sa eσ503
                have vσ503 := wt_ceq (wt_v_sa eσ503)
                have bb504 := wt_tn (2 : Int32)
                have bb505 := wt_tn (wt_gf σ497 108 40)
                have rσ503 := wt_RI_w rσ497 eσ503 (by omega) (by omega) (fun h => absurd h (by decide)) (fun h => absurd h (by decide))
                have bb506 := wt_bd (wt_gf σ503 108 40)
                have g507 : 0 ≤ (wt_gf σ503 108 40).toInt ∧ (wt_gf σ503 108 40).toInt ≤ 10 := wt_R_gf rσ503 8 rfl
                have tt508 : (wt_gf σ503 108 40).toInt = (wt_gf σ497 108 40).toInt := congrArg Int32.toInt (fσ503.1 108 40 (fun z => z))
                refine wt_T_gd (wt_ix (by omega) (by omega)) ?_
                have k509 : (3 : Int32).toInt = 3 := by decide
                refine wt_T_gd (wt_ix (by omega) (by omega)) ?_
                obtain ⟨σ510, eσ510⟩ : ∃ z : wt_St, z = wt_sa σ503 (264 + (Int32.toNatClampNeg (wt_gf σ503 108 40))) (Int32.toNatClampNeg (3 : Int32)) x4 := ⟨_, rfl⟩
                rw [← eσ510]
                have fσ510 := wt_fr_sa eσ510
                have vσ510 := wt_ceq (wt_v_sa eσ510)
                have bb511 := wt_tn (3 : Int32)
                have bb512 := wt_tn (wt_gf σ503 108 40)
                have rσ510 := wt_RI_w rσ503 eσ510 (by omega) (by omega) (fun h => absurd h (by decide)) (fun h => absurd h (by decide))
                obtain ⟨σ513, eσ513⟩ : ∃ z : wt_St, z = wt_sf σ510 108 40 ((wt_gf σ510 108 40) + (1 : Int32)) := ⟨_, rfl⟩
                rw [← eσ513]
                have fσ513 := wt_fr_sf eσ513
                have vσ513 := wt_ceq (wt_v_sf eσ513)
                have bb514 := wt_bd (wt_gf σ510 108 40)
                have g515 : 0 ≤ (wt_gf σ510 108 40).toInt ∧ (wt_gf σ510 108 40).toInt ≤ 10 := wt_R_gf rσ510 8 rfl
                have tt516 : (wt_gf σ510 108 40).toInt = (wt_gf σ503 108 40).toInt := congrArg Int32.toInt (fσ510.1 108 40 (fun z => z))
                obtain ⟨j517, j517a, j517b⟩ := wt_addI (wt_gf σ510 108 40) (1 : Int32)
                have rσ513 := wt_RI_fin rσ510 eσ513 8 rfl rfl (show 0 ≤ ((wt_gf σ510 108 40) + (1 : Int32)).toInt by omega) (show ((wt_gf σ510 108 40) + (1 : Int32)).toInt ≤ 10 by omega)
                refine wt_T_some ?_
                exact ⟨(wt_fr.tr (wt_fr.tr (wt_fr.tr (wt_fr.tr (wt_fr.tr (wt_fr.tr (wt_fr.tr (wt_fr.tr wt_fr.rf fσ5 (fun i k h => by (try dsimp only at h); exact Or.inl (by omega)) (fun i h => h.elim)) f273 (fun i k h => by (try dsimp only at h); exact Or.inl (by omega)) (fun i h => h.elim)) f469 (fun i k h => by (try dsimp only at h); exact Or.inl (by omega)) (fun i h => h.elim)) fσ491 (fun i k h => h.elim) (fun i h => by (try dsimp only at h); exact (by omega))) fσ497 (fun i k h => h.elim) (fun i h => by (try dsimp only at h); exact (by omega))) fσ503 (fun i k h => h.elim) (fun i h => by (try dsimp only at h); exact (by omega))) fσ510 (fun i k h => h.elim) (fun i h => by (try dsimp only at h); exact (by omega))) fσ513 (fun i k h => by (try dsimp only at h); exact Or.inr ((by omega))) (fun i h => h.elim)), rσ513⟩
            · skip
              have c518 := wt_nceq h474
              refine wt_T_some ?_
              exact ⟨(wt_fr.tr (wt_fr.tr (wt_fr.tr wt_fr.rf fσ5 (fun i k h => by (try dsimp only at h); exact Or.inl (by omega)) (fun i h => h.elim)) f273 (fun i k h => by (try dsimp only at h); exact Or.inl (by omega)) (fun i h => h.elim)) f469 (fun i k h => by (try dsimp only at h); exact Or.inl (by omega)) (fun i h => h.elim)), ri470⟩
    · skip
      have c519 := wt_nceq h279
      refine wt_T_some ?_
      exact ⟨(wt_fr.tr (wt_fr.tr wt_fr.rf fσ5 (fun i k h => by (try dsimp only at h); exact Or.inl (by omega)) (fun i h => h.elim)) f273 (fun i k h => by (try dsimp only at h); exact Or.inl (by omega)) (fun i h => h.elim)), ri274⟩
set_option maxRecDepth 100000 in
set_option maxHeartbeats 4000000 in
theorem wq_md_word (n : Nat) (hn : 4294967297 < n) (x1 : Int32) (x2 : Int32) (σ : wt_St) (r0 : wt_RI σ) : wt_T (wp_md_word n x1 x2 σ) (fun q => wt_fr (fun i k => (i = 108 ∧ k = 0)) (fun i => i = 287) σ q.2 ∧ wt_RI q.2) := by
  have bb1 := wt_bd x1
  have bb2 := wt_bd x2
  unfold wp_md_word
  obtain ⟨σ3, eσ3⟩ : ∃ z : wt_St, z = wt_sf σ 108 0 (0 : Int32) := ⟨_, rfl⟩
  rw [← eσ3]
  have fσ3 := wt_fr_sf eσ3
  have vσ3 := wt_ceq (wt_v_sf eσ3)
  have k4 : (0 : Int32).toInt = 0 := by decide
  have rσ3 := wt_RI_fno r0 eσ3 (Or.inr (by decide))
  refine wt_T_bi (wq_md_isWordNumber n hn x1 σ3 rσ3) (fun r5 h6 => ?_)
  obtain ⟨e7, pp8⟩ := h6
  have bb9 := wt_bd r5.1
  rw [e7]
  have bb10 := wt_bd (wt_gf σ3 108 28)
  have g11 : 0 ≤ (wt_gf σ3 108 28).toInt ∧ (wt_gf σ3 108 28).toInt ≤ 60 := wt_R_gf rσ3 6 rfl
  have tt12 : (wt_gf σ3 108 28).toInt = (wt_gf σ 108 28).toInt := congrArg Int32.toInt (fσ3.1 108 28 (by (try dsimp only); omega))
  have bb13 := wt_bd (wt_gf σ 108 28)
  have g14 : 0 ≤ (wt_gf σ 108 28).toInt ∧ (wt_gf σ 108 28).toInt ≤ 60 := wt_R_gf r0 6 rfl
  refine wt_T_if (fun h15 => ?_) (fun h15 => ?_)
  · skip
    have c16 := wt_ceq h15
    unfold wp_md_word_B19
    have k17 : (1 : Int32).toInt = 1 := by decide
    refine wt_T_bi (wq_md_bad n hn (1 : Int32) (1 : Int32) σ3 rσ3 (by omega)) (fun r18 h19 => ?_)
    obtain ⟨f20, ri21, pp22⟩ := h19
    have bb23 := wt_bd r18.1
    have bb24 := wt_bd (wt_gf r18.2 108 0)
    have bb25 := wt_bd (wt_gf σ3 108 0)
    refine wt_T_if (fun h26 => ?_) (fun h26 => ?_)
    · skip
      have c27 := wt_ceq h26
      have k28 : (4 : Int32).toInt = 4 := by decide
      refine wt_T_bi (wq_md_in n hn x2 (0 : Int32) (4 : Int32) r18.2 ri21) (fun r29 h30 => ?_)
      obtain ⟨e31, pp32⟩ := h30
      have bb33 := wt_bd r29.1
      rw [e31]
      refine wt_T_if (fun h34 => ?_) (fun h34 => ?_)
      · skip
        have c35 := wt_ceq h34
        unfold wp_md_word_B41
        have k36 : (2 : Int32).toInt = 2 := by decide
        refine wt_T_bi (wq_md_bad n hn (1 : Int32) (2 : Int32) r18.2 ri21 (by omega)) (fun r37 h38 => ?_)
        obtain ⟨f39, ri40, pp41⟩ := h38
        have bb42 := wt_bd r37.1
        have bb43 := wt_bd (wt_gf r37.2 108 0)
        refine wt_T_if (fun h44 => ?_) (fun h44 => ?_)
        · skip
          have c45 := wt_ceq h44
          refine wt_T_if (fun h46 => ?_) (fun h46 => ?_)
          · skip
            have c47 := wt_ceq h46
            refine wt_T_gd (wt_ix (by omega) (by omega)) ?_
            refine wt_T_some ?_
            exact ⟨(wt_fr.tr (wt_fr.tr (wt_fr.tr wt_fr.rf fσ3 (fun i k h => by (try dsimp only at h); exact (by omega)) (fun i h => h.elim)) f20 (fun i k h => by (try dsimp only at h); exact (by omega)) (fun i h => h.elim)) f39 (fun i k h => by (try dsimp only at h); exact (by omega)) (fun i h => h.elim)), ri40⟩
          · skip
            have c48 := wt_nceq h46
            refine wt_T_if (fun h49 => ?_) (fun h49 => ?_)
            · skip
              have c50 := wt_ceq h49
              refine wt_T_gd (wt_ix (by omega) (by omega)) ?_
              refine wt_T_some ?_
              exact ⟨(wt_fr.tr (wt_fr.tr (wt_fr.tr wt_fr.rf fσ3 (fun i k h => by (try dsimp only at h); exact (by omega)) (fun i h => h.elim)) f20 (fun i k h => by (try dsimp only at h); exact (by omega)) (fun i h => h.elim)) f39 (fun i k h => by (try dsimp only at h); exact (by omega)) (fun i h => h.elim)), ri40⟩
            · skip
              have c51 := wt_nceq h49
              refine wt_T_if (fun h52 => ?_) (fun h52 => ?_)
              · skip
                have c53 := wt_ceq h52
                refine wt_T_gd (wt_ix (by omega) (by omega)) ?_
                refine wt_T_some ?_
                exact ⟨(wt_fr.tr (wt_fr.tr (wt_fr.tr wt_fr.rf fσ3 (fun i k h => by (try dsimp only at h); exact (by omega)) (fun i h => h.elim)) f20 (fun i k h => by (try dsimp only at h); exact (by omega)) (fun i h => h.elim)) f39 (fun i k h => by (try dsimp only at h); exact (by omega)) (fun i h => h.elim)), ri40⟩
              · skip
                have c54 := wt_nceq h52
                have k55 : (3 : Int32).toInt = 3 := by decide
                refine wt_T_if (fun h56 => ?_) (fun h56 => ?_)
                · skip
                  have c57 := wt_ceq h56
                  refine wt_T_bi (wq_md_priceOf n hn x1 r37.2 ri40 (by omega) (by omega)) (fun r58 h59 => ?_)
                  have e60 := h59
                  have bb61 := wt_bd r58.1
                  rw [e60]
                  refine wt_T_some ?_
                  exact ⟨(wt_fr.tr (wt_fr.tr (wt_fr.tr wt_fr.rf fσ3 (fun i k h => by (try dsimp only at h); exact (by omega)) (fun i h => h.elim)) f20 (fun i k h => by (try dsimp only at h); exact (by omega)) (fun i h => h.elim)) f39 (fun i k h => by (try dsimp only at h); exact (by omega)) (fun i h => h.elim)), ri40⟩
                · skip
                  have c62 := wt_nceq h56
                  refine wt_T_bi (wq_md_canWord n hn x1 r37.2 ri40 (by omega) (by omega)) (fun r63 h64 => ?_)
                  obtain ⟨f65, ri66, pp67⟩ := h64
                  have bb68 := wt_bd r63.1
                  refine wt_T_some ?_
                  exact ⟨(wt_fr.tr (wt_fr.tr (wt_fr.tr (wt_fr.tr wt_fr.rf fσ3 (fun i k h => by (try dsimp only at h); exact (by omega)) (fun i h => h.elim)) f20 (fun i k h => by (try dsimp only at h); exact (by omega)) (fun i h => h.elim)) f39 (fun i k h => by (try dsimp only at h); exact (by omega)) (fun i h => h.elim)) f65 (fun i k h => h.elim) (fun i h => by (try dsimp only at h); exact (by omega))), ri66⟩
        · skip
          have c69 := wt_nceq h44
          refine wt_T_some ?_
          exact ⟨(wt_fr.tr (wt_fr.tr (wt_fr.tr wt_fr.rf fσ3 (fun i k h => by (try dsimp only at h); exact (by omega)) (fun i h => h.elim)) f20 (fun i k h => by (try dsimp only at h); exact (by omega)) (fun i h => h.elim)) f39 (fun i k h => by (try dsimp only at h); exact (by omega)) (fun i h => h.elim)), ri40⟩
      · skip
        have c70 := wt_nceq h34
        unfold wp_md_word_B41
        have k71 : (2 : Int32).toInt = 2 := by decide
        refine wt_T_bi (wq_md_bad n hn (0 : Int32) (2 : Int32) r18.2 ri21 (by omega)) (fun r72 h73 => ?_)
        obtain ⟨f74, ri75, pp76⟩ := h73
        have bb77 := wt_bd r72.1
        have bb78 := wt_bd (wt_gf r72.2 108 0)
        refine wt_T_if (fun h79 => ?_) (fun h79 => ?_)
        · skip
          have c80 := wt_ceq h79
          refine wt_T_if (fun h81 => ?_) (fun h81 => ?_)
          · skip
            have c82 := wt_ceq h81
            refine wt_T_gd (wt_ix (by omega) (by omega)) ?_
            refine wt_T_some ?_
            exact ⟨(wt_fr.tr (wt_fr.tr (wt_fr.tr wt_fr.rf fσ3 (fun i k h => by (try dsimp only at h); exact (by omega)) (fun i h => h.elim)) f20 (fun i k h => by (try dsimp only at h); exact (by omega)) (fun i h => h.elim)) f74 (fun i k h => by (try dsimp only at h); exact (by omega)) (fun i h => h.elim)), ri75⟩
          · skip
            have c83 := wt_nceq h81
            refine wt_T_if (fun h84 => ?_) (fun h84 => ?_)
            · skip
              have c85 := wt_ceq h84
              refine wt_T_gd (wt_ix (by omega) (by omega)) ?_
              refine wt_T_some ?_
              exact ⟨(wt_fr.tr (wt_fr.tr (wt_fr.tr wt_fr.rf fσ3 (fun i k h => by (try dsimp only at h); exact (by omega)) (fun i h => h.elim)) f20 (fun i k h => by (try dsimp only at h); exact (by omega)) (fun i h => h.elim)) f74 (fun i k h => by (try dsimp only at h); exact (by omega)) (fun i h => h.elim)), ri75⟩
            · skip
              have c86 := wt_nceq h84
              refine wt_T_if (fun h87 => ?_) (fun h87 => ?_)
              · skip
                have c88 := wt_ceq h87
                refine wt_T_gd (wt_ix (by omega) (by omega)) ?_
                refine wt_T_some ?_
                exact ⟨(wt_fr.tr (wt_fr.tr (wt_fr.tr wt_fr.rf fσ3 (fun i k h => by (try dsimp only at h); exact (by omega)) (fun i h => h.elim)) f20 (fun i k h => by (try dsimp only at h); exact (by omega)) (fun i h => h.elim)) f74 (fun i k h => by (try dsimp only at h); exact (by omega)) (fun i h => h.elim)), ri75⟩
              · skip
                have c89 := wt_nceq h87
                have k90 : (3 : Int32).toInt = 3 := by decide
                refine wt_T_if (fun h91 => ?_) (fun h91 => ?_)
                · skip
                  have c92 := wt_ceq h91
                  refine wt_T_bi (wq_md_priceOf n hn x1 r72.2 ri75 (by omega) (by omega)) (fun r93 h94 => ?_)
                  have e95 := h94
                  have bb96 := wt_bd r93.1
                  rw [e95]
                  refine wt_T_some ?_
                  exact ⟨(wt_fr.tr (wt_fr.tr (wt_fr.tr wt_fr.rf fσ3 (fun i k h => by (try dsimp only at h); exact (by omega)) (fun i h => h.elim)) f20 (fun i k h => by (try dsimp only at h); exact (by omega)) (fun i h => h.elim)) f74 (fun i k h => by (try dsimp only at h); exact (by omega)) (fun i h => h.elim)), ri75⟩
                · skip
                  have c97 := wt_nceq h91
                  refine wt_T_bi (wq_md_canWord n hn x1 r72.2 ri75 (by omega) (by omega)) (fun r98 h99 => ?_)
                  obtain ⟨f100, ri101, pp102⟩ := h99
                  have bb103 := wt_bd r98.1
                  refine wt_T_some ?_
                  exact ⟨(wt_fr.tr (wt_fr.tr (wt_fr.tr (wt_fr.tr wt_fr.rf fσ3 (fun i k h => by (try dsimp only at h); exact (by omega)) (fun i h => h.elim)) f20 (fun i k h => by (try dsimp only at h); exact (by omega)) (fun i h => h.elim)) f74 (fun i k h => by (try dsimp only at h); exact (by omega)) (fun i h => h.elim)) f100 (fun i k h => h.elim) (fun i h => by (try dsimp only at h); exact (by omega))), ri101⟩
        · skip
          have c104 := wt_nceq h79
          refine wt_T_some ?_
          exact ⟨(wt_fr.tr (wt_fr.tr (wt_fr.tr wt_fr.rf fσ3 (fun i k h => by (try dsimp only at h); exact (by omega)) (fun i h => h.elim)) f20 (fun i k h => by (try dsimp only at h); exact (by omega)) (fun i h => h.elim)) f74 (fun i k h => by (try dsimp only at h); exact (by omega)) (fun i h => h.elim)), ri75⟩
    · skip
      have c105 := wt_nceq h26
      refine wt_T_some ?_
      exact ⟨(wt_fr.tr (wt_fr.tr wt_fr.rf fσ3 (fun i k h => by (try dsimp only at h); exact (by omega)) (fun i h => h.elim)) f20 (fun i k h => by (try dsimp only at h); exact (by omega)) (fun i h => h.elim)), ri21⟩
  · skip
    have c106 := wt_nceq h15
    unfold wp_md_word_B19
    have k107 : (1 : Int32).toInt = 1 := by decide
    refine wt_T_bi (wq_md_bad n hn (0 : Int32) (1 : Int32) σ3 rσ3 (by omega)) (fun r108 h109 => ?_)
    obtain ⟨f110, ri111, pp112⟩ := h109
    have bb113 := wt_bd r108.1
    have bb114 := wt_bd (wt_gf r108.2 108 0)
    have bb115 := wt_bd (wt_gf σ3 108 0)
    refine wt_T_if (fun h116 => ?_) (fun h116 => ?_)
    · skip
      have c117 := wt_ceq h116
      have k118 : (4 : Int32).toInt = 4 := by decide
      refine wt_T_bi (wq_md_in n hn x2 (0 : Int32) (4 : Int32) r108.2 ri111) (fun r119 h120 => ?_)
      obtain ⟨e121, pp122⟩ := h120
      have bb123 := wt_bd r119.1
      rw [e121]
      refine wt_T_if (fun h124 => ?_) (fun h124 => ?_)
      · skip
        have c125 := wt_ceq h124
        unfold wp_md_word_B41
        have k126 : (2 : Int32).toInt = 2 := by decide
        refine wt_T_bi (wq_md_bad n hn (1 : Int32) (2 : Int32) r108.2 ri111 (by omega)) (fun r127 h128 => ?_)
        obtain ⟨f129, ri130, pp131⟩ := h128
        have bb132 := wt_bd r127.1
        have bb133 := wt_bd (wt_gf r127.2 108 0)
        refine wt_T_if (fun h134 => ?_) (fun h134 => ?_)
        · skip
          have c135 := wt_ceq h134
          refine wt_T_if (fun h136 => ?_) (fun h136 => ?_)
          · skip
            have c137 := wt_ceq h136
            refine wt_T_gd (wt_ix (by omega) (by omega)) ?_
            refine wt_T_some ?_
            exact ⟨(wt_fr.tr (wt_fr.tr (wt_fr.tr wt_fr.rf fσ3 (fun i k h => by (try dsimp only at h); exact (by omega)) (fun i h => h.elim)) f110 (fun i k h => by (try dsimp only at h); exact (by omega)) (fun i h => h.elim)) f129 (fun i k h => by (try dsimp only at h); exact (by omega)) (fun i h => h.elim)), ri130⟩
          · skip
            have c138 := wt_nceq h136
            refine wt_T_if (fun h139 => ?_) (fun h139 => ?_)
            · skip
              have c140 := wt_ceq h139
              refine wt_T_gd (wt_ix (by omega) (by omega)) ?_
              refine wt_T_some ?_
              exact ⟨(wt_fr.tr (wt_fr.tr (wt_fr.tr wt_fr.rf fσ3 (fun i k h => by (try dsimp only at h); exact (by omega)) (fun i h => h.elim)) f110 (fun i k h => by (try dsimp only at h); exact (by omega)) (fun i h => h.elim)) f129 (fun i k h => by (try dsimp only at h); exact (by omega)) (fun i h => h.elim)), ri130⟩
            · skip
              have c141 := wt_nceq h139
              refine wt_T_if (fun h142 => ?_) (fun h142 => ?_)
              · skip
                have c143 := wt_ceq h142
                refine wt_T_gd (wt_ix (by omega) (by omega)) ?_
                refine wt_T_some ?_
                exact ⟨(wt_fr.tr (wt_fr.tr (wt_fr.tr wt_fr.rf fσ3 (fun i k h => by (try dsimp only at h); exact (by omega)) (fun i h => h.elim)) f110 (fun i k h => by (try dsimp only at h); exact (by omega)) (fun i h => h.elim)) f129 (fun i k h => by (try dsimp only at h); exact (by omega)) (fun i h => h.elim)), ri130⟩
              · skip
                have c144 := wt_nceq h142
                have k145 : (3 : Int32).toInt = 3 := by decide
                refine wt_T_if (fun h146 => ?_) (fun h146 => ?_)
                · skip
                  have c147 := wt_ceq h146
                  refine wt_T_bi (wq_md_priceOf n hn x1 r127.2 ri130 (by omega) (by omega)) (fun r148 h149 => ?_)
                  have e150 := h149
                  have bb151 := wt_bd r148.1
                  rw [e150]
                  refine wt_T_some ?_
                  exact ⟨(wt_fr.tr (wt_fr.tr (wt_fr.tr wt_fr.rf fσ3 (fun i k h => by (try dsimp only at h); exact (by omega)) (fun i h => h.elim)) f110 (fun i k h => by (try dsimp only at h); exact (by omega)) (fun i h => h.elim)) f129 (fun i k h => by (try dsimp only at h); exact (by omega)) (fun i h => h.elim)), ri130⟩
                · skip
                  have c152 := wt_nceq h146
                  refine wt_T_bi (wq_md_canWord n hn x1 r127.2 ri130 (by omega) (by omega)) (fun r153 h154 => ?_)
                  obtain ⟨f155, ri156, pp157⟩ := h154
                  have bb158 := wt_bd r153.1
                  refine wt_T_some ?_
                  exact ⟨(wt_fr.tr (wt_fr.tr (wt_fr.tr (wt_fr.tr wt_fr.rf fσ3 (fun i k h => by (try dsimp only at h); exact (by omega)) (fun i h => h.elim)) f110 (fun i k h => by (try dsimp only at h); exact (by omega)) (fun i h => h.elim)) f129 (fun i k h => by (try dsimp only at h); exact (by omega)) (fun i h => h.elim)) f155 (fun i k h => h.elim) (fun i h => by (try dsimp only at h); exact (by omega))), ri156⟩
        · skip
          have c159 := wt_nceq h134
          refine wt_T_some ?_
          exact ⟨(wt_fr.tr (wt_fr.tr (wt_fr.tr wt_fr.rf fσ3 (fun i k h => by (try dsimp only at h); exact (by omega)) (fun i h => h.elim)) f110 (fun i k h => by (try dsimp only at h); exact (by omega)) (fun i h => h.elim)) f129 (fun i k h => by (try dsimp only at h); exact (by omega)) (fun i h => h.elim)), ri130⟩
      · skip
        have c160 := wt_nceq h124
        unfold wp_md_word_B41
        have k161 : (2 : Int32).toInt = 2 := by decide
        refine wt_T_bi (wq_md_bad n hn (0 : Int32) (2 : Int32) r108.2 ri111 (by omega)) (fun r162 h163 => ?_)
        obtain ⟨f164, ri165, pp166⟩ := h163
        have bb167 := wt_bd r162.1
        have bb168 := wt_bd (wt_gf r162.2 108 0)
        refine wt_T_if (fun h169 => ?_) (fun h169 => ?_)
        · skip
          have c170 := wt_ceq h169
          refine wt_T_if (fun h171 => ?_) (fun h171 => ?_)
          · skip
            have c172 := wt_ceq h171
            refine wt_T_gd (wt_ix (by omega) (by omega)) ?_
            refine wt_T_some ?_
            exact ⟨(wt_fr.tr (wt_fr.tr (wt_fr.tr wt_fr.rf fσ3 (fun i k h => by (try dsimp only at h); exact (by omega)) (fun i h => h.elim)) f110 (fun i k h => by (try dsimp only at h); exact (by omega)) (fun i h => h.elim)) f164 (fun i k h => by (try dsimp only at h); exact (by omega)) (fun i h => h.elim)), ri165⟩
          · skip
            have c173 := wt_nceq h171
            refine wt_T_if (fun h174 => ?_) (fun h174 => ?_)
            · skip
              have c175 := wt_ceq h174
              refine wt_T_gd (wt_ix (by omega) (by omega)) ?_
              refine wt_T_some ?_
              exact ⟨(wt_fr.tr (wt_fr.tr (wt_fr.tr wt_fr.rf fσ3 (fun i k h => by (try dsimp only at h); exact (by omega)) (fun i h => h.elim)) f110 (fun i k h => by (try dsimp only at h); exact (by omega)) (fun i h => h.elim)) f164 (fun i k h => by (try dsimp only at h); exact (by omega)) (fun i h => h.elim)), ri165⟩
            · skip
              have c176 := wt_nceq h174
              refine wt_T_if (fun h177 => ?_) (fun h177 => ?_)
              · skip
                have c178 := wt_ceq h177
                refine wt_T_gd (wt_ix (by omega) (by omega)) ?_
                refine wt_T_some ?_
                exact ⟨(wt_fr.tr (wt_fr.tr (wt_fr.tr wt_fr.rf fσ3 (fun i k h => by (try dsimp only at h); exact (by omega)) (fun i h => h.elim)) f110 (fun i k h => by (try dsimp only at h); exact (by omega)) (fun i h => h.elim)) f164 (fun i k h => by (try dsimp only at h); exact (by omega)) (fun i h => h.elim)), ri165⟩
              · skip
                have c179 := wt_nceq h177
                have k180 : (3 : Int32).toInt = 3 := by decide
                refine wt_T_if (fun h181 => ?_) (fun h181 => ?_)
                · skip
                  have c182 := wt_ceq h181
                  refine wt_T_bi (wq_md_priceOf n hn x1 r162.2 ri165 (by omega) (by omega)) (fun r183 h184 => ?_)
                  have e185 := h184
                  have bb186 := wt_bd r183.1
                  rw [e185]
                  refine wt_T_some ?_
                  exact ⟨(wt_fr.tr (wt_fr.tr (wt_fr.tr wt_fr.rf fσ3 (fun i k h => by (try dsimp only at h); exact (by omega)) (fun i h => h.elim)) f110 (fun i k h => by (try dsimp only at h); exact (by omega)) (fun i h => h.elim)) f164 (fun i k h => by (try dsimp only at h); exact (by omega)) (fun i h => h.elim)), ri165⟩
                · skip
                  have c187 := wt_nceq h181
                  refine wt_T_bi (wq_md_canWord n hn x1 r162.2 ri165 (by omega) (by omega)) (fun r188 h189 => ?_)
                  obtain ⟨f190, ri191, pp192⟩ := h189
                  have bb193 := wt_bd r188.1
                  refine wt_T_some ?_
                  exact ⟨(wt_fr.tr (wt_fr.tr (wt_fr.tr (wt_fr.tr wt_fr.rf fσ3 (fun i k h => by (try dsimp only at h); exact (by omega)) (fun i h => h.elim)) f110 (fun i k h => by (try dsimp only at h); exact (by omega)) (fun i h => h.elim)) f164 (fun i k h => by (try dsimp only at h); exact (by omega)) (fun i h => h.elim)) f190 (fun i k h => h.elim) (fun i h => by (try dsimp only at h); exact (by omega))), ri191⟩
        · skip
          have c194 := wt_nceq h169
          refine wt_T_some ?_
          exact ⟨(wt_fr.tr (wt_fr.tr (wt_fr.tr wt_fr.rf fσ3 (fun i k h => by (try dsimp only at h); exact (by omega)) (fun i h => h.elim)) f110 (fun i k h => by (try dsimp only at h); exact (by omega)) (fun i h => h.elim)) f164 (fun i k h => by (try dsimp only at h); exact (by omega)) (fun i h => h.elim)), ri165⟩
    · skip
      have c195 := wt_nceq h116
      refine wt_T_some ?_
      exact ⟨(wt_fr.tr (wt_fr.tr wt_fr.rf fσ3 (fun i k h => by (try dsimp only at h); exact (by omega)) (fun i h => h.elim)) f110 (fun i k h => by (try dsimp only at h); exact (by omega)) (fun i h => h.elim)), ri111⟩
set_option maxRecDepth 100000 in
set_option maxHeartbeats 4000000 in
theorem wq_md_wordings (n : Nat) (hn : 4294967297 < n) (x1 : Int32) (σ : wt_St) (r0 : wt_RI σ) : wt_T (wp_md_wordings n x1 σ) (fun q => wt_fr (fun i k => (i = 108 ∧ k = 0)) (fun i => (292 ≤ i ∧ i < 304) ∨ (305 ≤ i ∧ i < 317)) σ q.2 ∧ wt_RI q.2) := by
  have bb1 := wt_bd x1
  unfold wp_md_wordings
  obtain ⟨σ2, eσ2⟩ : ∃ z : wt_St, z = wt_sf σ 108 0 (0 : Int32) := ⟨_, rfl⟩
  rw [← eσ2]
  have fσ2 := wt_fr_sf eσ2
  have vσ2 := wt_ceq (wt_v_sf eσ2)
  have k3 : (0 : Int32).toInt = 0 := by decide
  have rσ2 := wt_RI_fno r0 eσ2 (Or.inr (by decide))
  refine wt_T_bi (wq_md_isText n hn x1 σ2 rσ2) (fun r4 h5 => ?_)
  obtain ⟨e6, pp7⟩ := h5
  have bb8 := wt_bd r4.1
  rw [e6]
  have bb9 := wt_bd (wt_gf σ2 108 39)
  have g10 : 0 ≤ (wt_gf σ2 108 39).toInt ∧ (wt_gf σ2 108 39).toInt ≤ 8 := wt_R_gf rσ2 7 rfl
  have tt11 : (wt_gf σ2 108 39).toInt = (wt_gf σ 108 39).toInt := congrArg Int32.toInt (fσ2.1 108 39 (by (try dsimp only); omega))
  have bb12 := wt_bd (wt_gf σ 108 39)
  have g13 : 0 ≤ (wt_gf σ 108 39).toInt ∧ (wt_gf σ 108 39).toInt ≤ 8 := wt_R_gf r0 7 rfl
  refine wt_T_if (fun h14 => ?_) (fun h14 => ?_)
  · skip
    have c15 := wt_ceq h14
    unfold wp_md_wordings_B19
    have k16 : (1 : Int32).toInt = 1 := by decide
    refine wt_T_bi (wq_md_bad n hn (1 : Int32) (1 : Int32) σ2 rσ2 (by omega)) (fun r17 h18 => ?_)
    obtain ⟨f19, ri20, pp21⟩ := h18
    have bb22 := wt_bd r17.1
    have bb23 := wt_bd (wt_gf r17.2 108 0)
    have bb24 := wt_bd (wt_gf σ2 108 0)
    refine wt_T_if (fun h25 => ?_) (fun h25 => ?_)
    · skip
      have c26 := wt_ceq h25
      refine wt_T_bi (wq_md_laysRests n hn x1 r17.2 ri20 (by omega) (by omega)) (fun r27 h28 => ?_)
      obtain ⟨f29, ri30⟩ := h28
      refine wt_T_it (fun s : Int32 × Int32 × wt_St => s.2.2 = r27 ∧ 0 ≤ (s.2.1).toInt) (fun s : Int32 × Int32 × wt_St => ((wt_gf s.2.2 108 28).toInt - s.2.1.toInt + 0).toNat) (fun KK31 z32 I33 hKK31 => ?_) _ _ ?_ ?_
      · skip
        obtain ⟨l34, l35⟩ := I33
        unfold wp_md_wordings_B37
        rw [l34]
        have bb36 := wt_bd (wt_gf r27 108 28)
        have g37 : 0 ≤ (wt_gf r27 108 28).toInt ∧ (wt_gf r27 108 28).toInt ≤ 60 := wt_R_gf ri30 6 rfl
        have tt38 : (wt_gf r27 108 28).toInt = (wt_gf r17.2 108 28).toInt := congrArg Int32.toInt (f29.1 108 28 (fun z => z))
        have bb39 := wt_bd (wt_gf r17.2 108 28)
        have g40 : 0 ≤ (wt_gf r17.2 108 28).toInt ∧ (wt_gf r17.2 108 28).toInt ≤ 60 := wt_R_gf ri20 6 rfl
        have tt41 : (wt_gf r17.2 108 28).toInt = (wt_gf σ2 108 28).toInt := congrArg Int32.toInt (f19.1 108 28 (by (try dsimp only); omega))
        have bb42 := wt_bd (wt_gf σ2 108 28)
        have g43 : 0 ≤ (wt_gf σ2 108 28).toInt ∧ (wt_gf σ2 108 28).toInt ≤ 60 := wt_R_gf rσ2 6 rfl
        have tt44 : (wt_gf σ2 108 28).toInt = (wt_gf σ 108 28).toInt := congrArg Int32.toInt (fσ2.1 108 28 (by (try dsimp only); omega))
        have bb45 := wt_bd (wt_gf σ 108 28)
        have g46 : 0 ≤ (wt_gf σ 108 28).toInt ∧ (wt_gf σ 108 28).toInt ≤ 60 := wt_R_gf r0 6 rfl
        have bb47 := wt_bd z32.2.1
        refine wt_T_if (fun h48 => ?_) (fun h48 => ?_)
        · skip
          have c49 := wt_cle h48
          refine wt_T_some ?_
          exact ⟨(wt_fr.tr (wt_fr.tr (wt_fr.tr wt_fr.rf fσ2 (fun i k h => by (try dsimp only at h); exact (by omega)) (fun i h => h.elim)) f19 (fun i k h => by (try dsimp only at h); exact (by omega)) (fun i h => h.elim)) f29 (fun i k h => h.elim) (fun i h => by (try dsimp only at h); rcases h with h | h; exact Or.inl (by omega); exact Or.inr ((by omega)))), ri30⟩
        · skip
          have c50 := wt_ncle h48
          refine wt_T_gd (wt_ix (by omega) (by omega)) ?_
          refine wt_T_gd (wt_ix (by omega) (by omega)) ?_
          have bb51 := wt_bd z32.1
          have bb52 := wt_tn (0 : Int32)
          have bb53 := wt_tn z32.2.1
          have bb54 := wt_bd (wt_ga r27 (305 + (Int32.toNatClampNeg (0 : Int32))) (Int32.toNatClampNeg z32.2.1))
          obtain ⟨j55, j55a, j55b⟩ := wt_addI z32.1 (wt_ga r27 (305 + (Int32.toNatClampNeg (0 : Int32))) (Int32.toNatClampNeg z32.2.1))
          have k56 : (1000000 : Int32).toInt = 1000000 := by decide
          refine wt_T_if (fun h57 => ?_) (fun h57 => ?_)
          · skip
            have c58 := wt_cle h57
            refine wt_T_gd (wt_ix (by omega) (by omega)) ?_
            refine wt_T_gd (wt_ix (by omega) (by omega)) ?_
            unfold wp_md_wordings_B77
            refine hKK31 _ ⟨rfl, (wt_nn (B := wt_gf z32.2.2 108 28) (by omega) (by first | (rw [l34]; omega) | (rw [l34]; done) | omega))⟩ ?_
            show ((wt_gf r27 108 28).toInt - (z32.2.1 + (1 : Int32)).toInt + 0).toNat < ((wt_gf z32.2.2 108 28).toInt - z32.2.1.toInt + 0).toNat
            exact wt_mu (by first | (rw [l34]; omega) | (rw [l34]; done) | omega) (by first | (rw [l34]; omega) | (rw [l34]; done) | omega)
          · skip
            have c59 := wt_ncle h57
            unfold wp_md_wordings_B77
            refine hKK31 _ ⟨rfl, (wt_nn (B := wt_gf z32.2.2 108 28) (by omega) (by first | (rw [l34]; omega) | (rw [l34]; done) | omega))⟩ ?_
            show ((wt_gf r27 108 28).toInt - (z32.2.1 + (1 : Int32)).toInt + 0).toNat < ((wt_gf z32.2.2 108 28).toInt - z32.2.1.toInt + 0).toNat
            exact wt_mu (by first | (rw [l34]; omega) | (rw [l34]; done) | omega) (by first | (rw [l34]; omega) | (rw [l34]; done) | omega)
      · skip
        have bb60 := wt_bd (wt_gf r27 108 28)
        have g61 : 0 ≤ (wt_gf r27 108 28).toInt ∧ (wt_gf r27 108 28).toInt ≤ 60 := wt_R_gf ri30 6 rfl
        have tt62 : (wt_gf r27 108 28).toInt = (wt_gf r17.2 108 28).toInt := congrArg Int32.toInt (f29.1 108 28 (fun z => z))
        have bb63 := wt_bd (wt_gf r17.2 108 28)
        have g64 : 0 ≤ (wt_gf r17.2 108 28).toInt ∧ (wt_gf r17.2 108 28).toInt ≤ 60 := wt_R_gf ri20 6 rfl
        have tt65 : (wt_gf r17.2 108 28).toInt = (wt_gf σ2 108 28).toInt := congrArg Int32.toInt (f19.1 108 28 (by (try dsimp only); omega))
        have bb66 := wt_bd (wt_gf σ2 108 28)
        have g67 : 0 ≤ (wt_gf σ2 108 28).toInt ∧ (wt_gf σ2 108 28).toInt ≤ 60 := wt_R_gf rσ2 6 rfl
        have tt68 : (wt_gf σ2 108 28).toInt = (wt_gf σ 108 28).toInt := congrArg Int32.toInt (fσ2.1 108 28 (by (try dsimp only); omega))
        have bb69 := wt_bd (wt_gf σ 108 28)
        have g70 : 0 ≤ (wt_gf σ 108 28).toInt ∧ (wt_gf σ 108 28).toInt ≤ 60 := wt_R_gf r0 6 rfl
        exact ⟨rfl, (show 0 ≤ ((0 : Int32)).toInt by omega)⟩
      · skip
        have bb71 := wt_bd (wt_gf r27 108 28)
        have g72 : 0 ≤ (wt_gf r27 108 28).toInt ∧ (wt_gf r27 108 28).toInt ≤ 60 := wt_R_gf ri30 6 rfl
        have tt73 : (wt_gf r27 108 28).toInt = (wt_gf r17.2 108 28).toInt := congrArg Int32.toInt (f29.1 108 28 (fun z => z))
        have bb74 := wt_bd (wt_gf r17.2 108 28)
        have g75 : 0 ≤ (wt_gf r17.2 108 28).toInt ∧ (wt_gf r17.2 108 28).toInt ≤ 60 := wt_R_gf ri20 6 rfl
        have tt76 : (wt_gf r17.2 108 28).toInt = (wt_gf σ2 108 28).toInt := congrArg Int32.toInt (f19.1 108 28 (by (try dsimp only); omega))
        have bb77 := wt_bd (wt_gf σ2 108 28)
        have g78 : 0 ≤ (wt_gf σ2 108 28).toInt ∧ (wt_gf σ2 108 28).toInt ≤ 60 := wt_R_gf rσ2 6 rfl
        have tt79 : (wt_gf σ2 108 28).toInt = (wt_gf σ 108 28).toInt := congrArg Int32.toInt (fσ2.1 108 28 (by (try dsimp only); omega))
        have bb80 := wt_bd (wt_gf σ 108 28)
        have g81 : 0 ≤ (wt_gf σ 108 28).toInt ∧ (wt_gf σ 108 28).toInt ≤ 60 := wt_R_gf r0 6 rfl
        show ((wt_gf r27 108 28).toInt - (0 : Int32).toInt + 0).toNat < n
        omega
    · skip
      have c82 := wt_nceq h25
      refine wt_T_some ?_
      exact ⟨(wt_fr.tr (wt_fr.tr wt_fr.rf fσ2 (fun i k h => by (try dsimp only at h); exact (by omega)) (fun i h => h.elim)) f19 (fun i k h => by (try dsimp only at h); exact (by omega)) (fun i h => h.elim)), ri20⟩
  · skip
    have c83 := wt_nceq h14
    unfold wp_md_wordings_B19
    have k84 : (1 : Int32).toInt = 1 := by decide
    refine wt_T_bi (wq_md_bad n hn (0 : Int32) (1 : Int32) σ2 rσ2 (by omega)) (fun r85 h86 => ?_)
    obtain ⟨f87, ri88, pp89⟩ := h86
    have bb90 := wt_bd r85.1
    have bb91 := wt_bd (wt_gf r85.2 108 0)
    have bb92 := wt_bd (wt_gf σ2 108 0)
    refine wt_T_if (fun h93 => ?_) (fun h93 => ?_)
    · skip
      have c94 := wt_ceq h93
      refine wt_T_bi (wq_md_laysRests n hn x1 r85.2 ri88 (by omega) (by omega)) (fun r95 h96 => ?_)
      obtain ⟨f97, ri98⟩ := h96
      refine wt_T_it (fun s : Int32 × Int32 × wt_St => s.2.2 = r95 ∧ 0 ≤ (s.2.1).toInt) (fun s : Int32 × Int32 × wt_St => ((wt_gf s.2.2 108 28).toInt - s.2.1.toInt + 0).toNat) (fun KK99 z100 I101 hKK99 => ?_) _ _ ?_ ?_
      · skip
        obtain ⟨l102, l103⟩ := I101
        unfold wp_md_wordings_B37
        rw [l102]
        have bb104 := wt_bd (wt_gf r95 108 28)
        have g105 : 0 ≤ (wt_gf r95 108 28).toInt ∧ (wt_gf r95 108 28).toInt ≤ 60 := wt_R_gf ri98 6 rfl
        have tt106 : (wt_gf r95 108 28).toInt = (wt_gf r85.2 108 28).toInt := congrArg Int32.toInt (f97.1 108 28 (fun z => z))
        have bb107 := wt_bd (wt_gf r85.2 108 28)
        have g108 : 0 ≤ (wt_gf r85.2 108 28).toInt ∧ (wt_gf r85.2 108 28).toInt ≤ 60 := wt_R_gf ri88 6 rfl
        have tt109 : (wt_gf r85.2 108 28).toInt = (wt_gf σ2 108 28).toInt := congrArg Int32.toInt (f87.1 108 28 (by (try dsimp only); omega))
        have bb110 := wt_bd (wt_gf σ2 108 28)
        have g111 : 0 ≤ (wt_gf σ2 108 28).toInt ∧ (wt_gf σ2 108 28).toInt ≤ 60 := wt_R_gf rσ2 6 rfl
        have tt112 : (wt_gf σ2 108 28).toInt = (wt_gf σ 108 28).toInt := congrArg Int32.toInt (fσ2.1 108 28 (by (try dsimp only); omega))
        have bb113 := wt_bd (wt_gf σ 108 28)
        have g114 : 0 ≤ (wt_gf σ 108 28).toInt ∧ (wt_gf σ 108 28).toInt ≤ 60 := wt_R_gf r0 6 rfl
        have bb115 := wt_bd z100.2.1
        refine wt_T_if (fun h116 => ?_) (fun h116 => ?_)
        · skip
          have c117 := wt_cle h116
          refine wt_T_some ?_
          exact ⟨(wt_fr.tr (wt_fr.tr (wt_fr.tr wt_fr.rf fσ2 (fun i k h => by (try dsimp only at h); exact (by omega)) (fun i h => h.elim)) f87 (fun i k h => by (try dsimp only at h); exact (by omega)) (fun i h => h.elim)) f97 (fun i k h => h.elim) (fun i h => by (try dsimp only at h); rcases h with h | h; exact Or.inl (by omega); exact Or.inr ((by omega)))), ri98⟩
        · skip
          have c118 := wt_ncle h116
          refine wt_T_gd (wt_ix (by omega) (by omega)) ?_
          refine wt_T_gd (wt_ix (by omega) (by omega)) ?_
          have bb119 := wt_bd z100.1
          have bb120 := wt_tn (0 : Int32)
          have bb121 := wt_tn z100.2.1
          have bb122 := wt_bd (wt_ga r95 (305 + (Int32.toNatClampNeg (0 : Int32))) (Int32.toNatClampNeg z100.2.1))
          obtain ⟨j123, j123a, j123b⟩ := wt_addI z100.1 (wt_ga r95 (305 + (Int32.toNatClampNeg (0 : Int32))) (Int32.toNatClampNeg z100.2.1))
          have k124 : (1000000 : Int32).toInt = 1000000 := by decide
          refine wt_T_if (fun h125 => ?_) (fun h125 => ?_)
          · skip
            have c126 := wt_cle h125
            refine wt_T_gd (wt_ix (by omega) (by omega)) ?_
            refine wt_T_gd (wt_ix (by omega) (by omega)) ?_
            unfold wp_md_wordings_B77
            refine hKK99 _ ⟨rfl, (wt_nn (B := wt_gf z100.2.2 108 28) (by omega) (by first | (rw [l102]; omega) | (rw [l102]; done) | omega))⟩ ?_
            show ((wt_gf r95 108 28).toInt - (z100.2.1 + (1 : Int32)).toInt + 0).toNat < ((wt_gf z100.2.2 108 28).toInt - z100.2.1.toInt + 0).toNat
            exact wt_mu (by first | (rw [l102]; omega) | (rw [l102]; done) | omega) (by first | (rw [l102]; omega) | (rw [l102]; done) | omega)
          · skip
            have c127 := wt_ncle h125
            unfold wp_md_wordings_B77
            refine hKK99 _ ⟨rfl, (wt_nn (B := wt_gf z100.2.2 108 28) (by omega) (by first | (rw [l102]; omega) | (rw [l102]; done) | omega))⟩ ?_
            show ((wt_gf r95 108 28).toInt - (z100.2.1 + (1 : Int32)).toInt + 0).toNat < ((wt_gf z100.2.2 108 28).toInt - z100.2.1.toInt + 0).toNat
            exact wt_mu (by first | (rw [l102]; omega) | (rw [l102]; done) | omega) (by first | (rw [l102]; omega) | (rw [l102]; done) | omega)
      · skip
        have bb128 := wt_bd (wt_gf r95 108 28)
        have g129 : 0 ≤ (wt_gf r95 108 28).toInt ∧ (wt_gf r95 108 28).toInt ≤ 60 := wt_R_gf ri98 6 rfl
        have tt130 : (wt_gf r95 108 28).toInt = (wt_gf r85.2 108 28).toInt := congrArg Int32.toInt (f97.1 108 28 (fun z => z))
        have bb131 := wt_bd (wt_gf r85.2 108 28)
        have g132 : 0 ≤ (wt_gf r85.2 108 28).toInt ∧ (wt_gf r85.2 108 28).toInt ≤ 60 := wt_R_gf ri88 6 rfl
        have tt133 : (wt_gf r85.2 108 28).toInt = (wt_gf σ2 108 28).toInt := congrArg Int32.toInt (f87.1 108 28 (by (try dsimp only); omega))
        have bb134 := wt_bd (wt_gf σ2 108 28)
        have g135 : 0 ≤ (wt_gf σ2 108 28).toInt ∧ (wt_gf σ2 108 28).toInt ≤ 60 := wt_R_gf rσ2 6 rfl
        have tt136 : (wt_gf σ2 108 28).toInt = (wt_gf σ 108 28).toInt := congrArg Int32.toInt (fσ2.1 108 28 (by (try dsimp only); omega))
        have bb137 := wt_bd (wt_gf σ 108 28)
        have g138 : 0 ≤ (wt_gf σ 108 28).toInt ∧ (wt_gf σ 108 28).toInt ≤ 60 := wt_R_gf r0 6 rfl
        exact ⟨rfl, (show 0 ≤ ((0 : Int32)).toInt by omega)⟩
      · skip
        have bb139 := wt_bd (wt_gf r95 108 28)
        have g140 : 0 ≤ (wt_gf r95 108 28).toInt ∧ (wt_gf r95 108 28).toInt ≤ 60 := wt_R_gf ri98 6 rfl
        have tt141 : (wt_gf r95 108 28).toInt = (wt_gf r85.2 108 28).toInt := congrArg Int32.toInt (f97.1 108 28 (fun z => z))
        have bb142 := wt_bd (wt_gf r85.2 108 28)
        have g143 : 0 ≤ (wt_gf r85.2 108 28).toInt ∧ (wt_gf r85.2 108 28).toInt ≤ 60 := wt_R_gf ri88 6 rfl
        have tt144 : (wt_gf r85.2 108 28).toInt = (wt_gf σ2 108 28).toInt := congrArg Int32.toInt (f87.1 108 28 (by (try dsimp only); omega))
        have bb145 := wt_bd (wt_gf σ2 108 28)
        have g146 : 0 ≤ (wt_gf σ2 108 28).toInt ∧ (wt_gf σ2 108 28).toInt ≤ 60 := wt_R_gf rσ2 6 rfl
        have tt147 : (wt_gf σ2 108 28).toInt = (wt_gf σ 108 28).toInt := congrArg Int32.toInt (fσ2.1 108 28 (by (try dsimp only); omega))
        have bb148 := wt_bd (wt_gf σ 108 28)
        have g149 : 0 ≤ (wt_gf σ 108 28).toInt ∧ (wt_gf σ 108 28).toInt ≤ 60 := wt_R_gf r0 6 rfl
        show ((wt_gf r95 108 28).toInt - (0 : Int32).toInt + 0).toNat < n
        omega
    · skip
      have c150 := wt_nceq h93
      refine wt_T_some ?_
      exact ⟨(wt_fr.tr (wt_fr.tr wt_fr.rf fσ2 (fun i k h => by (try dsimp only at h); exact (by omega)) (fun i h => h.elim)) f87 (fun i k h => by (try dsimp only at h); exact (by omega)) (fun i h => h.elim)), ri88⟩
