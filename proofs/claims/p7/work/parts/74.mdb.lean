set_option maxRecDepth 100000 in
set_option maxHeartbeats 4000000 in
theorem wq_md_isPrinted (n : Nat) (hn : 4294967297 < n) (x1 : Int32) (σ : wt_St) (r0 : wt_RI σ) (p0 : 0 ≤ x1.toInt) (p1 : x1.toInt < (wt_gf σ 108 40).toInt) : wt_T (wp_md_isPrinted n x1 σ) (fun q => wt_fr (fun i k => (i = 108 ∧ k = 54)) (fun i => i = 287 ∨ i = 124 ∨ i = 288 ∨ i = 121) σ q.2 ∧ wt_RI q.2) := by
  unfold wp_md_isPrinted
  have k0 : (0 : Int32).toInt = 0 := by decide
  have k1 : (1 : Int32).toInt = 1 := by decide
  have k4 : (4 : Int32).toInt = 4 := by decide
  have gw : 0 ≤ (wt_gf σ 108 40).toInt ∧ (wt_gf σ 108 40).toInt ≤ 10 := wt_R_gf r0 8 rfl
  have hx := wt_tnI p0
  refine wt_T_gd (wt_ix (by omega) (by omega)) ?_
  refine wt_T_gd (wt_ix (by omega) (by omega)) ?_
  have g0 := wt_R_w0 r0 (264 + Int32.toNatClampNeg x1) (by omega) (by omega)
  refine wt_T_bi (wq_md_needsText n hn _ σ r0 g0.1 g0.2) (fun q hq => ?_)
  obtain ⟨fq, rq, nb, -⟩ := hq
  refine wt_T_gd (wt_ix (by omega) (by omega)) ?_
  refine wt_T_gd (wt_ix (by omega) (by omega)) ?_
  have g1 := wt_R_w1 rq (264 + Int32.toNatClampNeg x1) (by omega) (by omega)
  refine wt_T_bi (wq_md_takes n hn _ (4 : Int32) q rq (by omega) (by omega) nb) (fun q6 h6 => ?_)
  obtain ⟨f6, r6, v6⟩ := h6
  have fr6 : wt_fr (fun i k => (i = 108 ∧ k = 54)) (fun i => i = 287 ∨ i = 124 ∨ i = 288 ∨ i = 121) σ q6.2 := wt_fr.tr (wt_fr.tr wt_fr.rf fq (fun i k h => h.elim) (fun i h => Or.inl h)) f6 (fun i k h => h) (fun i h => h.elim (fun h => Or.inr (Or.inl h)) (fun h => Or.inr (Or.inr (Or.inl h))))
  refine wt_T_if (fun h => wt_T_some ⟨fr6, r6⟩) (fun h => ?_)
  have c := wt_nceq h
  have td : wt_TD q6.2 (wt_ga q (264 + Int32.toNatClampNeg x1) (Int32.toNatClampNeg (1 : Int32))).toInt (4 : Int32).toInt := by
    rcases v6 with v6 | v6
    · exact absurd v6.1 (by omega)
    · exact v6.2.2
  have t1 : ∀ s : wt_St, wt_fr (fun _ _ => False) (fun i => i = 121 ∨ i = 124) q6.2 s → wt_ga s (264 + Int32.toNatClampNeg x1) (Int32.toNatClampNeg (1 : Int32)) = wt_ga q (264 + Int32.toNatClampNeg x1) (Int32.toNatClampNeg (1 : Int32)) := fun s fs => by
    rw [fs.2 _ (by omega), f6.2 _ (by omega)]
  generalize wt_ga q (264 + Int32.toNatClampNeg x1) (Int32.toNatClampNeg (1 : Int32)) = cp at *
  have gt : 0 ≤ (wt_gf q6.2 108 54).toInt ∧ (wt_gf q6.2 108 54).toInt ≤ 108 := wt_R_gf r6 10 rfl
  refine wt_T_it (fun s : Int32 × wt_St => wt_fr (fun _ _ => False) (fun i => i = 121 ∨ i = 124) q6.2 s.2 ∧ wt_RI s.2 ∧ 0 ≤ s.1.toInt ∧ ∀ m : Nat, s.1.toInt ≤ (m : Int) → (m : Int) < (wt_gf q6.2 108 54).toInt → cp.toInt ≤ (wt_ga s.2 121 (Int32.toNatClampNeg (wt_ga q6.2 288 m))).toInt) (fun s => ((wt_gf q6.2 108 54).toInt - s.1.toInt).toNat) (fun K y hJ hK => ?_) n _ ?_ ?_
  · obtain ⟨fy, ry, m1, m2⟩ := hJ
    have em := wt_tnI m1
    unfold wp_md_isPrinted_B32
    rw [fy.1 108 54 (fun h => h), fy.2 288 (by decide) (Int32.toNatClampNeg y.1), t1 y.2 fy]
    refine wt_T_if (fun h2 => wt_T_some ⟨wt_fr.tr fr6 fy (fun i k h => h.elim) (fun i h => h.elim (fun h => Or.inr (Or.inr (Or.inr h))) (fun h => Or.inr (Or.inl h))), ry⟩) (fun h2 => ?_)
    have c2 := wt_ncle h2
    have gc : 0 ≤ (wt_ga q6.2 288 (Int32.toNatClampNeg y.1)).toInt ∧ (wt_ga q6.2 288 (Int32.toNatClampNeg y.1)).toInt ≤ 337 := wt_R_ga r6 15 rfl 288 (by decide) (by decide) _
    have hge := m2 (Int32.toNatClampNeg y.1) (by omega) (by omega)
    have gl : 0 ≤ (wt_ga y.2 121 (Int32.toNatClampNeg (wt_ga q6.2 288 (Int32.toNatClampNeg y.1)))).toInt ∧ (wt_ga y.2 121 (Int32.toNatClampNeg (wt_ga q6.2 288 (Int32.toNatClampNeg y.1)))).toInt ≤ 400 := wt_R_ga ry 3 rfl 121 (by decide) (by decide) _
    refine wt_T_gd (wt_ix (by omega) (by omega)) ?_
    refine wt_T_gd (wt_ix (by omega) (by omega)) ?_
    refine wt_T_gd (wt_ix (by omega) (by omega)) ?_
    refine wt_T_gd (wt_ix (by omega) (by omega)) ?_
    refine wt_T_gd (wt_ix (by omega) (by omega)) ?_
    refine wt_T_gd (wt_ix (by omega) (by omega)) ?_
    have es := wt_subE (x := wt_ga y.2 121 (Int32.toNatClampNeg (wt_ga q6.2 288 (Int32.toNatClampNeg y.1)))) (y := cp) (by omega) (by omega)
    obtain ⟨σ1, ε1⟩ : ∃ o : wt_St, o = wt_sa y.2 121 (Int32.toNatClampNeg (wt_ga q6.2 288 (Int32.toNatClampNeg y.1))) ((wt_ga y.2 121 (Int32.toNatClampNeg (wt_ga q6.2 288 (Int32.toNatClampNeg y.1)))) - cp) := ⟨_, rfl⟩
    rw [← ε1]
    have f1 := wt_fr_sa ε1
    have r1 := wt_RI_in ry ε1 3 rfl (by decide) (by decide) (show 0 ≤ ((wt_ga y.2 121 (Int32.toNatClampNeg (wt_ga q6.2 288 (Int32.toNatClampNeg y.1)))) - cp).toInt by omega) (show ((wt_ga y.2 121 (Int32.toNatClampNeg (wt_ga q6.2 288 (Int32.toNatClampNeg y.1)))) - cp).toInt ≤ 400 by omega)
    rw [f1.2 288 (by decide) (Int32.toNatClampNeg y.1), fy.2 288 (by decide) (Int32.toNatClampNeg y.1)]
    refine wt_T_gd (wt_ix (by omega) (by omega)) ?_
    obtain ⟨σ2, ε2⟩ : ∃ o : wt_St, o = wt_sa σ1 124 (Int32.toNatClampNeg (wt_ga q6.2 288 (Int32.toNatClampNeg y.1))) (-1 : Int32) := ⟨_, rfl⟩
    rw [← ε2]
    have f2 := wt_fr_sa ε2
    have ei := wt_i1 (c := y.1) (by omega)
    refine hK _ ⟨wt_fr.tr (wt_fr.tr fy f1 (fun i k h => h) (fun i h => Or.inl h)) f2 (fun i k h => h) (fun i h => Or.inr h), wt_RI_no r1 ε2 124 125 (by decide) (by decide) (by decide), (show 0 ≤ (y.1 + (1 : Int32)).toInt by omega), fun m hm hm2 => ?_⟩ (show ((wt_gf q6.2 108 54).toInt - (y.1 + (1 : Int32)).toInt).toNat < ((wt_gf q6.2 108 54).toInt - y.1.toInt).toNat by omega)
    have hm' : (y.1 + (1 : Int32)).toInt ≤ (m : Int) := hm
    show cp.toInt ≤ (wt_ga σ2 121 (Int32.toNatClampNeg (wt_ga q6.2 288 m))).toInt
    have gm : 0 ≤ (wt_ga q6.2 288 m).toInt ∧ (wt_ga q6.2 288 m).toInt ≤ 337 := wt_R_ga r6 15 rfl 288 (by decide) (by decide) _
    have hd := (td m hm2).2.2 (Int32.toNatClampNeg y.1) (by omega)
    rw [f2.2 121 (by decide), wt_w_sa ε1 _ (fun w => hd (wt_eqI (by have := wt_tnI gm.1; have := wt_tnI gc.1; omega)))]
    exact m2 m (by omega) hm2
  · refine ⟨wt_fr.rf, r6, (show 0 ≤ (0 : Int32).toInt by omega), fun m _ hm => (td m hm).2.1⟩
  · show ((wt_gf q6.2 108 54).toInt - (0 : Int32).toInt).toNat < n
    omega

set_option maxRecDepth 100000 in
set_option maxHeartbeats 4000000 in
theorem wq_md_prints (n : Nat) (hn : 4294967297 < n) (x1 : Int32) (x2 : Int32) (x3 : Int32) (σ : wt_St) (r0 : wt_RI σ) : wt_T (wp_md_prints n x1 x2 x3 σ) (fun q => wt_fr (fun i k => (i = 108 ∧ k = 54)) (fun i => i = 287 ∨ i = 124 ∨ i = 288 ∨ i = 121) σ q.2 ∧ wt_RI q.2) := by
  have bb1 := wt_bd x1
  have bb2 := wt_bd x2
  have bb3 := wt_bd x3
  unfold wp_md_prints
  have k10 : (0 : Int32).toInt = 0 := by decide
  refine wt_T_it (fun s : Int32 × Int32 × wt_St => wt_fr (fun i k => (i = 108 ∧ k = 54)) (fun i => i = 287 ∨ i = 124 ∨ i = 288 ∨ i = 121) σ s.2.2 ∧ 0 ≤ (s.2.1).toInt ∧ wt_RI s.2.2) (fun s : Int32 × Int32 × wt_St => (x3.toInt - s.2.1.toInt + 0).toNat) (fun KK4 z5 I6 hKK4 => ?_) _ _ ?_ ?_
  · skip
    obtain ⟨l7, l8, l9⟩ := I6
    unfold wp_md_prints_B6
    have bb11 := wt_bd z5.2.1
    refine wt_T_if (fun h12 => ?_) (fun h12 => ?_)
    · skip
      have c13 := wt_cle h12
      refine wt_T_some ?_
      exact ⟨(wt_fr.tr wt_fr.rf l7 (fun i k h => by (try dsimp only at h); exact (by omega)) (fun i h => by (try dsimp only at h); rcases h with h | h | h | h; exact Or.inl (by omega); exact Or.inr (Or.inl (by omega)); exact Or.inr (Or.inr (Or.inl (by omega))); exact Or.inr (Or.inr (Or.inr ((by omega)))))), l9⟩
    · skip
      have c14 := wt_ncle h12
      have bb21 := wt_bd z5.1
      refine wt_T_it (fun s : Int32 × Int32 × wt_St => wt_fr (fun i k => (i = 108 ∧ k = 54)) (fun i => i = 287 ∨ i = 124 ∨ i = 288 ∨ i = 121) z5.2.2 s.2.2 ∧ 0 ≤ (s.2.1).toInt ∧ wt_RI s.2.2) (fun s : Int32 × Int32 × wt_St => ((wt_gf s.2.2 108 40).toInt - s.2.1.toInt + 0).toNat) (fun KK15 z16 I17 hKK15 => ?_) _ _ ?_ ?_
      · skip
        obtain ⟨l18, l19, l20⟩ := I17
        unfold wp_md_prints_B15
        have bb22 := wt_bd (wt_gf z16.2.2 108 40)
        have g23 : 0 ≤ (wt_gf z16.2.2 108 40).toInt ∧ (wt_gf z16.2.2 108 40).toInt ≤ 10 := wt_R_gf l20 8 rfl
        have tt24 : (wt_gf z16.2.2 108 40).toInt = (wt_gf z5.2.2 108 40).toInt := congrArg Int32.toInt (l18.1 108 40 (by (try dsimp only); omega))
        have bb25 := wt_bd (wt_gf z5.2.2 108 40)
        have g26 : 0 ≤ (wt_gf z5.2.2 108 40).toInt ∧ (wt_gf z5.2.2 108 40).toInt ≤ 10 := wt_R_gf l9 8 rfl
        have tt27 : (wt_gf z5.2.2 108 40).toInt = (wt_gf σ 108 40).toInt := congrArg Int32.toInt (l7.1 108 40 (by (try dsimp only); omega))
        have bb28 := wt_bd (wt_gf σ 108 40)
        have g29 : 0 ≤ (wt_gf σ 108 40).toInt ∧ (wt_gf σ 108 40).toInt ≤ 10 := wt_R_gf r0 8 rfl
        have bb30 := wt_bd z16.2.1
        refine wt_T_if (fun h31 => ?_) (fun h31 => ?_)
        · skip
          have c32 := wt_cle h31
          have bb33 := wt_bd z16.1
          refine hKK4 _ ⟨(wt_fr.tr (wt_fr.tr wt_fr.rf l7 (fun i k h => by (try dsimp only at h); exact (by omega)) (fun i h => by (try dsimp only at h); rcases h with h | h | h | h; exact Or.inl (by omega); exact Or.inr (Or.inl (by omega)); exact Or.inr (Or.inr (Or.inl (by omega))); exact Or.inr (Or.inr (Or.inr ((by omega)))))) l18 (fun i k h => by (try dsimp only at h); exact (by omega)) (fun i h => by (try dsimp only at h); rcases h with h | h | h | h; exact Or.inl (by omega); exact Or.inr (Or.inl (by omega)); exact Or.inr (Or.inr (Or.inl (by omega))); exact Or.inr (Or.inr (Or.inr ((by omega)))))), (wt_nn (B := x3) (by omega) (by omega)), l20⟩ ?_
          show (x3.toInt - (z5.2.1 + (1 : Int32)).toInt + 0).toNat < (x3.toInt - z5.2.1.toInt + 0).toNat
          exact wt_mu (by omega) (by omega)
        · skip
          have c34 := wt_ncle h31
          refine wt_T_gd (wt_ix (by omega) (by omega)) ?_
          have k35 : (2 : Int32).toInt = 2 := by decide
          refine wt_T_gd (wt_ix (by omega) (by omega)) ?_
          have bb36 := wt_tn z16.2.1
          have bb37 := wt_tn (2 : Int32)
          have bb38 := wt_bd (wt_ga z16.2.2 (264 + (Int32.toNatClampNeg z16.2.1)) (Int32.toNatClampNeg (2 : Int32)))
          have tt39 : (wt_ga z16.2.2 (264 + (Int32.toNatClampNeg z16.2.1)) (Int32.toNatClampNeg (2 : Int32))).toInt = (wt_ga z5.2.2 (264 + (Int32.toNatClampNeg z16.2.1)) (Int32.toNatClampNeg (2 : Int32))).toInt := congrArg Int32.toInt (l18.2 (264 + (Int32.toNatClampNeg z16.2.1)) (by (try dsimp only); omega) (Int32.toNatClampNeg (2 : Int32)))
          have bb40 := wt_bd (wt_ga z5.2.2 (264 + (Int32.toNatClampNeg z16.2.1)) (Int32.toNatClampNeg (2 : Int32)))
          have tt41 : (wt_ga z5.2.2 (264 + (Int32.toNatClampNeg z16.2.1)) (Int32.toNatClampNeg (2 : Int32))).toInt = (wt_ga σ (264 + (Int32.toNatClampNeg z16.2.1)) (Int32.toNatClampNeg (2 : Int32))).toInt := congrArg Int32.toInt (l7.2 (264 + (Int32.toNatClampNeg z16.2.1)) (by (try dsimp only); omega) (Int32.toNatClampNeg (2 : Int32)))
          have bb42 := wt_bd (wt_ga σ (264 + (Int32.toNatClampNeg z16.2.1)) (Int32.toNatClampNeg (2 : Int32)))
          refine wt_T_if (fun h43 => ?_) (fun h43 => ?_)
          · skip
            have c44 := wt_ceq h43
            have k45 : (31 : Int32).toInt = 31 := by decide
            have bb46 := wt_bd (z16.2.1 &&& 31)
            have bb47 := wt_bd (x1 >>> (z16.2.1 &&& 31))
            have k48 : (1 : Int32).toInt = 1 := by decide
            have bb49 := wt_bd ((x1 >>> (z16.2.1 &&& 31)) &&& (1 : Int32))
            refine wt_T_if (fun h50 => ?_) (fun h50 => ?_)
            · skip
              have c51 := wt_ceq h50
              unfold wp_md_prints_B77
              have bb52 := wt_bd z16.1
              refine hKK15 _ ⟨(wt_fr.tr wt_fr.rf l18 (fun i k h => by (try dsimp only at h); exact (by omega)) (fun i h => by (try dsimp only at h); rcases h with h | h | h | h; exact Or.inl (by omega); exact Or.inr (Or.inl (by omega)); exact Or.inr (Or.inr (Or.inl (by omega))); exact Or.inr (Or.inr (Or.inr ((by omega)))))), (wt_nn (B := wt_gf z16.2.2 108 40) (by omega) (by omega)), l20⟩ ?_
              show ((wt_gf z16.2.2 108 40).toInt - (z16.2.1 + (1 : Int32)).toInt + 0).toNat < ((wt_gf z16.2.2 108 40).toInt - z16.2.1.toInt + 0).toNat
              exact wt_mu (by omega) (by omega)
            · skip
              have c53 := wt_nceq h50
              refine wt_T_bi (wq_md_isPrinted n hn z16.2.1 z16.2.2 l20 (by omega) (by omega)) (fun r54 h55 => ?_)
              obtain ⟨f56, ri57⟩ := h55
              have bb58 := wt_bd r54.1
              refine wt_T_if (fun h59 => ?_) (fun h59 => ?_)
              · skip
                have c60 := wt_ceq h59
                refine wt_T_if (fun h61 => ?_) (fun h61 => ?_)
                · skip
                  have c62 := wt_ceq h61
                  refine wt_T_some ?_
                  exact ⟨(wt_fr.tr (wt_fr.tr (wt_fr.tr wt_fr.rf l7 (fun i k h => by (try dsimp only at h); exact (by omega)) (fun i h => by (try dsimp only at h); rcases h with h | h | h | h; exact Or.inl (by omega); exact Or.inr (Or.inl (by omega)); exact Or.inr (Or.inr (Or.inl (by omega))); exact Or.inr (Or.inr (Or.inr ((by omega)))))) l18 (fun i k h => by (try dsimp only at h); exact (by omega)) (fun i h => by (try dsimp only at h); rcases h with h | h | h | h; exact Or.inl (by omega); exact Or.inr (Or.inl (by omega)); exact Or.inr (Or.inr (Or.inl (by omega))); exact Or.inr (Or.inr (Or.inr ((by omega)))))) f56 (fun i k h => by (try dsimp only at h); exact (by omega)) (fun i h => by (try dsimp only at h); rcases h with h | h | h | h; exact Or.inl (by omega); exact Or.inr (Or.inl (by omega)); exact Or.inr (Or.inr (Or.inl (by omega))); exact Or.inr (Or.inr (Or.inr ((by omega)))))), ri57⟩
                · skip
                  have c63 := wt_nceq h61
                  unfold wp_md_prints_B77
                  have bb64 := wt_bd z16.1
                  have bb65 := wt_bd (wt_gf r54.2 108 40)
                  have g66 : 0 ≤ (wt_gf r54.2 108 40).toInt ∧ (wt_gf r54.2 108 40).toInt ≤ 10 := wt_R_gf ri57 8 rfl
                  have tt67 : (wt_gf r54.2 108 40).toInt = (wt_gf z16.2.2 108 40).toInt := congrArg Int32.toInt (f56.1 108 40 (by (try dsimp only); omega))
                  refine hKK15 _ ⟨(wt_fr.tr (wt_fr.tr wt_fr.rf l18 (fun i k h => by (try dsimp only at h); exact (by omega)) (fun i h => by (try dsimp only at h); rcases h with h | h | h | h; exact Or.inl (by omega); exact Or.inr (Or.inl (by omega)); exact Or.inr (Or.inr (Or.inl (by omega))); exact Or.inr (Or.inr (Or.inr ((by omega)))))) f56 (fun i k h => by (try dsimp only at h); exact (by omega)) (fun i h => by (try dsimp only at h); rcases h with h | h | h | h; exact Or.inl (by omega); exact Or.inr (Or.inl (by omega)); exact Or.inr (Or.inr (Or.inl (by omega))); exact Or.inr (Or.inr (Or.inr ((by omega)))))), (wt_nn (B := wt_gf z16.2.2 108 40) (by omega) (by omega)), ri57⟩ ?_
                  show ((wt_gf r54.2 108 40).toInt - (z16.2.1 + (1 : Int32)).toInt + 0).toNat < ((wt_gf z16.2.2 108 40).toInt - z16.2.1.toInt + 0).toNat
                  exact wt_mu (by omega) (by omega)
              · skip
                have c68 := wt_nceq h59
                unfold wp_md_prints_B77
                have bb69 := wt_bd z16.1
                have bb70 := wt_bd ((1 : Int32) <<< (z16.2.1 &&& 31))
                have bb71 := wt_bd (z16.1 ||| ((1 : Int32) <<< (z16.2.1 &&& 31)))
                have bb72 := wt_bd (wt_gf r54.2 108 40)
                have g73 : 0 ≤ (wt_gf r54.2 108 40).toInt ∧ (wt_gf r54.2 108 40).toInt ≤ 10 := wt_R_gf ri57 8 rfl
                have tt74 : (wt_gf r54.2 108 40).toInt = (wt_gf z16.2.2 108 40).toInt := congrArg Int32.toInt (f56.1 108 40 (by (try dsimp only); omega))
                refine hKK15 _ ⟨(wt_fr.tr (wt_fr.tr wt_fr.rf l18 (fun i k h => by (try dsimp only at h); exact (by omega)) (fun i h => by (try dsimp only at h); rcases h with h | h | h | h; exact Or.inl (by omega); exact Or.inr (Or.inl (by omega)); exact Or.inr (Or.inr (Or.inl (by omega))); exact Or.inr (Or.inr (Or.inr ((by omega)))))) f56 (fun i k h => by (try dsimp only at h); exact (by omega)) (fun i h => by (try dsimp only at h); rcases h with h | h | h | h; exact Or.inl (by omega); exact Or.inr (Or.inl (by omega)); exact Or.inr (Or.inr (Or.inl (by omega))); exact Or.inr (Or.inr (Or.inr ((by omega)))))), (wt_nn (B := wt_gf z16.2.2 108 40) (by omega) (by omega)), ri57⟩ ?_
                show ((wt_gf r54.2 108 40).toInt - (z16.2.1 + (1 : Int32)).toInt + 0).toNat < ((wt_gf z16.2.2 108 40).toInt - z16.2.1.toInt + 0).toNat
                exact wt_mu (by omega) (by omega)
          · skip
            have c75 := wt_nceq h43
            unfold wp_md_prints_B77
            have bb76 := wt_bd z16.1
            refine hKK15 _ ⟨(wt_fr.tr wt_fr.rf l18 (fun i k h => by (try dsimp only at h); exact (by omega)) (fun i h => by (try dsimp only at h); rcases h with h | h | h | h; exact Or.inl (by omega); exact Or.inr (Or.inl (by omega)); exact Or.inr (Or.inr (Or.inl (by omega))); exact Or.inr (Or.inr (Or.inr ((by omega)))))), (wt_nn (B := wt_gf z16.2.2 108 40) (by omega) (by omega)), l20⟩ ?_
            show ((wt_gf z16.2.2 108 40).toInt - (z16.2.1 + (1 : Int32)).toInt + 0).toNat < ((wt_gf z16.2.2 108 40).toInt - z16.2.1.toInt + 0).toNat
            exact wt_mu (by omega) (by omega)
      · skip
        have bb77 := wt_bd (wt_gf z5.2.2 108 40)
        have g78 : 0 ≤ (wt_gf z5.2.2 108 40).toInt ∧ (wt_gf z5.2.2 108 40).toInt ≤ 10 := wt_R_gf l9 8 rfl
        have tt79 : (wt_gf z5.2.2 108 40).toInt = (wt_gf σ 108 40).toInt := congrArg Int32.toInt (l7.1 108 40 (by (try dsimp only); omega))
        have bb80 := wt_bd (wt_gf σ 108 40)
        have g81 : 0 ≤ (wt_gf σ 108 40).toInt ∧ (wt_gf σ 108 40).toInt ≤ 10 := wt_R_gf r0 8 rfl
        exact ⟨wt_fr.rf, (show 0 ≤ ((0 : Int32)).toInt by omega), l9⟩
      · skip
        have bb82 := wt_bd (wt_gf z5.2.2 108 40)
        have g83 : 0 ≤ (wt_gf z5.2.2 108 40).toInt ∧ (wt_gf z5.2.2 108 40).toInt ≤ 10 := wt_R_gf l9 8 rfl
        have tt84 : (wt_gf z5.2.2 108 40).toInt = (wt_gf σ 108 40).toInt := congrArg Int32.toInt (l7.1 108 40 (by (try dsimp only); omega))
        have bb85 := wt_bd (wt_gf σ 108 40)
        have g86 : 0 ≤ (wt_gf σ 108 40).toInt ∧ (wt_gf σ 108 40).toInt ≤ 10 := wt_R_gf r0 8 rfl
        show ((wt_gf z5.2.2 108 40).toInt - (0 : Int32).toInt + 0).toNat < n
        omega
  · skip
    exact ⟨wt_fr.rf, (show 0 ≤ ((0 : Int32)).toInt by omega), r0⟩
  · skip
    show (x3.toInt - (0 : Int32).toInt + 0).toNat < n
    omega
set_option maxRecDepth 100000 in
set_option maxHeartbeats 4000000 in
theorem wq_md_puts (n : Nat) (hn : 4294967297 < n) (σ : wt_St) (r0 : wt_RI σ) : wt_T (wp_md_puts n σ) (fun q => wt_fr (fun i k => False) (fun i => i = 286) σ q ∧ wt_RI q) := by
  unfold wp_md_puts
  have k7 : (0 : Int32).toInt = 0 := by decide
  refine wt_T_it (fun s : Int32 × wt_St => wt_fr (fun i k => False) (fun i => i = 286) σ s.2 ∧ 0 ≤ (s.1).toInt ∧ wt_RI s.2) (fun s : Int32 × wt_St => ((338 : Int32).toInt - s.1.toInt + 0).toNat) (fun KK1 z2 I3 hKK1 => ?_) _ _ ?_ ?_
  · skip
    obtain ⟨l4, l5, l6⟩ := I3
    unfold wp_md_puts_B2
    have k8 : (338 : Int32).toInt = 338 := by decide
    have bb9 := wt_bd z2.1
    refine wt_T_if (fun h10 => ?_) (fun h10 => ?_)
    · skip
      have c11 := wt_cle h10
      refine wt_T_some ?_
      exact ⟨(wt_fr.tr wt_fr.rf l4 (fun i k h => h.elim) (fun i h => by (try dsimp only at h); exact (by omega))), l6⟩
    · skip
      have c12 := wt_ncle h10
      refine wt_T_gd (wt_ix (by omega) (by omega)) ?_
      refine wt_T_gd (wt_ix (by omega) (by omega)) ?_
      obtain ⟨σ13, eσ13⟩ : ∃ z : wt_St, z = wt_sa z2.2 286 (Int32.toNatClampNeg z2.1) (wt_ga z2.2 121 (Int32.toNatClampNeg z2.1)) := ⟨_, rfl⟩
      rw [← eσ13]
      have fσ13 := wt_fr_sa eσ13
      have vσ13 := wt_ceq (wt_v_sa eσ13)
      have bb14 := wt_tn z2.1
      have bb15 := wt_bd (wt_ga z2.2 121 (Int32.toNatClampNeg z2.1))
      have g16 : 0 ≤ (wt_ga z2.2 121 (Int32.toNatClampNeg z2.1)).toInt ∧ (wt_ga z2.2 121 (Int32.toNatClampNeg z2.1)).toInt ≤ 400 := wt_R_ga l6 3 rfl 121 (by decide) (by decide) (Int32.toNatClampNeg z2.1)
      have tt17 : (wt_ga z2.2 121 (Int32.toNatClampNeg z2.1)).toInt = (wt_ga σ 121 (Int32.toNatClampNeg z2.1)).toInt := congrArg Int32.toInt (l4.2 121 (by (try dsimp only); omega) (Int32.toNatClampNeg z2.1))
      have bb18 := wt_bd (wt_ga σ 121 (Int32.toNatClampNeg z2.1))
      have g19 : 0 ≤ (wt_ga σ 121 (Int32.toNatClampNeg z2.1)).toInt ∧ (wt_ga σ 121 (Int32.toNatClampNeg z2.1)).toInt ≤ 400 := wt_R_ga r0 3 rfl 121 (by decide) (by decide) (Int32.toNatClampNeg z2.1)
      have rσ13 := wt_RI_in l6 eσ13 17 rfl (by decide) (by decide) (show 0 ≤ (wt_ga z2.2 121 (Int32.toNatClampNeg z2.1)).toInt by omega) (show (wt_ga z2.2 121 (Int32.toNatClampNeg z2.1)).toInt ≤ 400 by omega)
      refine hKK1 _ ⟨(wt_fr.tr (wt_fr.tr wt_fr.rf l4 (fun i k h => h.elim) (fun i h => by (try dsimp only at h); exact (by omega))) fσ13 (fun i k h => h.elim) (fun i h => by (try dsimp only at h); exact (by omega))), (wt_nn (B := (338 : Int32)) (by omega) (by omega)), rσ13⟩ ?_
      show ((338 : Int32).toInt - (z2.1 + (1 : Int32)).toInt + 0).toNat < ((338 : Int32).toInt - z2.1.toInt + 0).toNat
      exact wt_mu (by omega) (by omega)
  · skip
    have k20 : (338 : Int32).toInt = 338 := by decide
    exact ⟨wt_fr.rf, (show 0 ≤ ((0 : Int32)).toInt by omega), r0⟩
  · skip
    have k21 : (338 : Int32).toInt = 338 := by decide
    show ((338 : Int32).toInt - (0 : Int32).toInt + 0).toNat < n
    omega
set_option maxRecDepth 100000 in
set_option maxHeartbeats 4000000 in
theorem wq_md_greedyAhead (n : Nat) (hn : 4294967297 < n) (x1 : Int32) (σ : wt_St) (r0 : wt_RI σ) : wt_T (wp_md_greedyAhead n x1 σ) (fun q => wt_fr (fun i k => (i = 108 ∧ k = 54)) (fun i => i = 286 ∨ i = 287 ∨ i = 124 ∨ i = 288 ∨ i = 121) σ q.2 ∧ wt_RI q.2) := by
  have bb1 := wt_bd x1
  unfold wp_md_greedyAhead
  refine wt_T_bi (wq_md_puts n hn σ r0) (fun r2 h3 => ?_)
  obtain ⟨f4, ri5⟩ := h3
  have k6 : (1 : Int32).toInt = 1 := by decide
  have bb7 := wt_bd (wt_gf r2 108 40)
  have g8 : 0 ≤ (wt_gf r2 108 40).toInt ∧ (wt_gf r2 108 40).toInt ≤ 10 := wt_R_gf ri5 8 rfl
  have tt9 : (wt_gf r2 108 40).toInt = (wt_gf σ 108 40).toInt := congrArg Int32.toInt (f4.1 108 40 (fun z => z))
  have bb10 := wt_bd (wt_gf σ 108 40)
  have g11 : 0 ≤ (wt_gf σ 108 40).toInt ∧ (wt_gf σ 108 40).toInt ≤ 10 := wt_R_gf r0 8 rfl
  have k12 : (31 : Int32).toInt = 31 := by decide
  have bb13 := wt_bd ((wt_gf r2 108 40) &&& 31)
  have bb14 := wt_bd ((1 : Int32) <<< ((wt_gf r2 108 40) &&& 31))
  obtain ⟨j15, j15a, j15b⟩ := wt_subI ((1 : Int32) <<< ((wt_gf r2 108 40) &&& 31)) (1 : Int32)
  refine wt_T_bi (wq_md_prints n hn (((1 : Int32) <<< ((wt_gf r2 108 40) &&& 31)) - (1 : Int32)) (1 : Int32) x1 r2 ri5) (fun r16 h17 => ?_)
  obtain ⟨f18, ri19⟩ := h17
  have bb20 := wt_bd r16.1
  refine wt_T_some ?_
  exact ⟨(wt_fr.tr (wt_fr.tr wt_fr.rf f4 (fun i k h => h.elim) (fun i h => by (try dsimp only at h); exact Or.inl (by omega))) f18 (fun i k h => by (try dsimp only at h); exact (by omega)) (fun i h => by (try dsimp only at h); rcases h with h | h | h | h; exact Or.inr (Or.inl (by omega)); exact Or.inr (Or.inr (Or.inl (by omega))); exact Or.inr (Or.inr (Or.inr (Or.inl (by omega)))); exact Or.inr (Or.inr (Or.inr (Or.inr ((by omega))))))), ri19⟩
set_option maxRecDepth 100000 in
set_option maxHeartbeats 4000000 in
theorem wq_md_isWordNumber (n : Nat) (hn : 4294967297 < n) (x1 : Int32) (σ : wt_St) (r0 : wt_RI σ) : wt_T (wp_md_isWordNumber n x1 σ) (fun q => q.2 = σ ∧ (q.1.toInt = 0 ∨ (q.1.toInt = 1 ∧ 0 ≤ x1.toInt ∧ x1.toInt < (wt_gf σ 108 28).toInt))) := by
  have bb1 := wt_bd x1
  unfold wp_md_isWordNumber
  have k2 : (0 : Int32).toInt = 0 := by decide
  have bb3 := wt_bd (wt_gf σ 108 28)
  have g4 : 0 ≤ (wt_gf σ 108 28).toInt ∧ (wt_gf σ 108 28).toInt ≤ 60 := wt_R_gf r0 6 rfl
  have k5 : (1 : Int32).toInt = 1 := by decide
  obtain ⟨j6, j6a, j6b⟩ := wt_subI (wt_gf σ 108 28) (1 : Int32)
  refine wt_T_bi (wq_md_in n hn x1 (0 : Int32) ((wt_gf σ 108 28) - (1 : Int32)) σ r0) (fun r7 h8 => ?_)
  obtain ⟨e9, pp10⟩ := h8
  have bb11 := wt_bd r7.1
  rw [e9]
  refine wt_T_some ?_
  exact ⟨rfl, (show (r7.1.toInt = 0 ∨ (r7.1.toInt = 1 ∧ 0 ≤ x1.toInt ∧ x1.toInt < (wt_gf σ 108 28).toInt)) from by omega)⟩
set_option maxRecDepth 100000 in
set_option maxHeartbeats 4000000 in
theorem wq_md_putsBack (n : Nat) (hn : 4294967297 < n) (σ : wt_St) (r0 : wt_RI σ) : wt_T (wp_md_putsBack n σ) (fun q => wt_fr (fun i k => False) (fun i => i = 121) σ q ∧ wt_RI q) := by
  unfold wp_md_putsBack
  have k7 : (0 : Int32).toInt = 0 := by decide
  refine wt_T_it (fun s : Int32 × wt_St => wt_fr (fun i k => False) (fun i => i = 121) σ s.2 ∧ 0 ≤ (s.1).toInt ∧ wt_RI s.2) (fun s : Int32 × wt_St => ((338 : Int32).toInt - s.1.toInt + 0).toNat) (fun KK1 z2 I3 hKK1 => ?_) _ _ ?_ ?_
  · skip
    obtain ⟨l4, l5, l6⟩ := I3
    unfold wp_md_putsBack_B2
    have k8 : (338 : Int32).toInt = 338 := by decide
    have bb9 := wt_bd z2.1
    refine wt_T_if (fun h10 => ?_) (fun h10 => ?_)
    · skip
      have c11 := wt_cle h10
      refine wt_T_some ?_
      exact ⟨(wt_fr.tr wt_fr.rf l4 (fun i k h => h.elim) (fun i h => by (try dsimp only at h); exact (by omega))), l6⟩
    · skip
      have c12 := wt_ncle h10
      refine wt_T_gd (wt_ix (by omega) (by omega)) ?_
      refine wt_T_gd (wt_ix (by omega) (by omega)) ?_
      obtain ⟨σ13, eσ13⟩ : ∃ z : wt_St, z = wt_sa z2.2 121 (Int32.toNatClampNeg z2.1) (wt_ga z2.2 286 (Int32.toNatClampNeg z2.1)) := ⟨_, rfl⟩
      rw [← eσ13]
      have fσ13 := wt_fr_sa eσ13
      have vσ13 := wt_ceq (wt_v_sa eσ13)
      have bb14 := wt_tn z2.1
      have bb15 := wt_bd (wt_ga z2.2 286 (Int32.toNatClampNeg z2.1))
      have g16 : 0 ≤ (wt_ga z2.2 286 (Int32.toNatClampNeg z2.1)).toInt ∧ (wt_ga z2.2 286 (Int32.toNatClampNeg z2.1)).toInt ≤ 400 := wt_R_ga l6 17 rfl 286 (by decide) (by decide) (Int32.toNatClampNeg z2.1)
      have tt17 : (wt_ga z2.2 286 (Int32.toNatClampNeg z2.1)).toInt = (wt_ga σ 286 (Int32.toNatClampNeg z2.1)).toInt := congrArg Int32.toInt (l4.2 286 (by (try dsimp only); omega) (Int32.toNatClampNeg z2.1))
      have bb18 := wt_bd (wt_ga σ 286 (Int32.toNatClampNeg z2.1))
      have g19 : 0 ≤ (wt_ga σ 286 (Int32.toNatClampNeg z2.1)).toInt ∧ (wt_ga σ 286 (Int32.toNatClampNeg z2.1)).toInt ≤ 400 := wt_R_ga r0 17 rfl 286 (by decide) (by decide) (Int32.toNatClampNeg z2.1)
      have rσ13 := wt_RI_in l6 eσ13 3 rfl (by decide) (by decide) (show 0 ≤ (wt_ga z2.2 286 (Int32.toNatClampNeg z2.1)).toInt by omega) (show (wt_ga z2.2 286 (Int32.toNatClampNeg z2.1)).toInt ≤ 400 by omega)
      refine hKK1 _ ⟨(wt_fr.tr (wt_fr.tr wt_fr.rf l4 (fun i k h => h.elim) (fun i h => by (try dsimp only at h); exact (by omega))) fσ13 (fun i k h => h.elim) (fun i h => by (try dsimp only at h); exact (by omega))), (wt_nn (B := (338 : Int32)) (by omega) (by omega)), rσ13⟩ ?_
      show ((338 : Int32).toInt - (z2.1 + (1 : Int32)).toInt + 0).toNat < ((338 : Int32).toInt - z2.1.toInt + 0).toNat
      exact wt_mu (by omega) (by omega)
  · skip
    have k20 : (338 : Int32).toInt = 338 := by decide
    exact ⟨wt_fr.rf, (show 0 ≤ ((0 : Int32)).toInt by omega), r0⟩
  · skip
    have k21 : (338 : Int32).toInt = 338 := by decide
    show ((338 : Int32).toInt - (0 : Int32).toInt + 0).toNat < n
    omega
set_option maxRecDepth 100000 in
set_option maxHeartbeats 4000000 in
theorem wq_md_ends (n : Nat) (hn : 4294967297 < n) (x1 : Int32) (σ : wt_St) (r0 : wt_RI σ) : wt_T (wp_md_ends n x1 σ) (fun q => wt_fr (fun i k => (i = 108 ∧ k = 0) ∨ (i = 108 ∧ k = 54)) (fun i => i = 286 ∨ i = 287 ∨ i = 124 ∨ i = 288 ∨ i = 121) σ q.2 ∧ wt_RI q.2) := by
  have bb1 := wt_bd x1
  unfold wp_md_ends
  obtain ⟨σ2, eσ2⟩ : ∃ z : wt_St, z = wt_sf σ 108 0 (0 : Int32) := ⟨_, rfl⟩
  rw [← eσ2]
  have fσ2 := wt_fr_sf eσ2
  have vσ2 := wt_ceq (wt_v_sf eσ2)
  have k3 : (0 : Int32).toInt = 0 := by decide
  have rσ2 := wt_RI_fno r0 eσ2 (Or.inr (by decide))
  refine wt_T_bi (wq_md_isWordNumber n hn x1 σ2 rσ2) (fun r4 h5 => ?_)
  obtain ⟨e6, pp7⟩ := h5
  have bb8 := wt_bd r4.1
  rw [e6]
  have bb9 := wt_bd (wt_gf σ2 108 28)
  have g10 : 0 ≤ (wt_gf σ2 108 28).toInt ∧ (wt_gf σ2 108 28).toInt ≤ 60 := wt_R_gf rσ2 6 rfl
  have tt11 : (wt_gf σ2 108 28).toInt = (wt_gf σ 108 28).toInt := congrArg Int32.toInt (fσ2.1 108 28 (by (try dsimp only); omega))
  have bb12 := wt_bd (wt_gf σ 108 28)
  have g13 : 0 ≤ (wt_gf σ 108 28).toInt ∧ (wt_gf σ 108 28).toInt ≤ 60 := wt_R_gf r0 6 rfl
  refine wt_T_if (fun h14 => ?_) (fun h14 => ?_)
  · skip
    have c15 := wt_ceq h14
    unfold wp_md_ends_B19
    have k16 : (1 : Int32).toInt = 1 := by decide
    refine wt_T_bi (wq_md_bad n hn (1 : Int32) (1 : Int32) σ2 rσ2 (by omega)) (fun r17 h18 => ?_)
    obtain ⟨f19, ri20, pp21⟩ := h18
    have bb22 := wt_bd r17.1
    have bb23 := wt_bd (wt_gf r17.2 108 0)
    have bb24 := wt_bd (wt_gf σ2 108 0)
    refine wt_T_if (fun h25 => ?_) (fun h25 => ?_)
    · skip
      have c26 := wt_ceq h25
      refine wt_T_it (fun s : Int32 × wt_St => wt_fr (fun i k => (i = 108 ∧ k = 54)) (fun i => i = 286 ∨ i = 287 ∨ i = 124 ∨ i = 288 ∨ i = 121) r17.2 s.2 ∧ 0 ≤ (s.1).toInt ∧ wt_RI s.2) (fun s : Int32 × wt_St => ((100 : Int32).toInt - s.1.toInt + 1).toNat) (fun KK27 z28 I29 hKK27 => ?_) _ _ ?_ ?_
      · skip
        obtain ⟨l30, l31, l32⟩ := I29
        unfold wp_md_ends_B30
        have k33 : (100 : Int32).toInt = 100 := by decide
        have bb34 := wt_bd z28.1
        refine wt_T_if (fun h35 => ?_) (fun h35 => ?_)
        · skip
          have c36 := wt_clt h35
          refine wt_T_some ?_
          exact ⟨(wt_fr.tr (wt_fr.tr (wt_fr.tr wt_fr.rf fσ2 (fun i k h => by (try dsimp only at h); exact Or.inl (by omega)) (fun i h => h.elim)) f19 (fun i k h => by (try dsimp only at h); exact Or.inl (by omega)) (fun i h => h.elim)) l30 (fun i k h => by (try dsimp only at h); exact Or.inr ((by omega))) (fun i h => by (try dsimp only at h); rcases h with h | h | h | h | h; exact Or.inl (by omega); exact Or.inr (Or.inl (by omega)); exact Or.inr (Or.inr (Or.inl (by omega))); exact Or.inr (Or.inr (Or.inr (Or.inl (by omega)))); exact Or.inr (Or.inr (Or.inr (Or.inr ((by omega))))))), l32⟩
        · skip
          have c37 := wt_ncl h35
          refine wt_T_bi (wq_md_greedyAhead n hn z28.1 z28.2 l32) (fun r38 h39 => ?_)
          obtain ⟨f40, ri41⟩ := h39
          refine wt_T_bi (wq_md_canWord n hn x1 r38.2 ri41 (by omega) (by omega)) (fun r42 h43 => ?_)
          obtain ⟨f44, ri45, pp46⟩ := h43
          have bb47 := wt_bd r42.1
          refine wt_T_bi (wq_md_putsBack n hn r42.2 ri45) (fun r48 h49 => ?_)
          obtain ⟨f50, ri51⟩ := h49
          refine wt_T_if (fun h52 => ?_) (fun h52 => ?_)
          · skip
            have c53 := wt_ceq h52
            refine wt_T_some ?_
            exact ⟨(wt_fr.tr (wt_fr.tr (wt_fr.tr (wt_fr.tr (wt_fr.tr (wt_fr.tr wt_fr.rf fσ2 (fun i k h => by (try dsimp only at h); exact Or.inl (by omega)) (fun i h => h.elim)) f19 (fun i k h => by (try dsimp only at h); exact Or.inl (by omega)) (fun i h => h.elim)) l30 (fun i k h => by (try dsimp only at h); exact Or.inr ((by omega))) (fun i h => by (try dsimp only at h); rcases h with h | h | h | h | h; exact Or.inl (by omega); exact Or.inr (Or.inl (by omega)); exact Or.inr (Or.inr (Or.inl (by omega))); exact Or.inr (Or.inr (Or.inr (Or.inl (by omega)))); exact Or.inr (Or.inr (Or.inr (Or.inr ((by omega))))))) f40 (fun i k h => by (try dsimp only at h); exact Or.inr ((by omega))) (fun i h => by (try dsimp only at h); rcases h with h | h | h | h | h; exact Or.inl (by omega); exact Or.inr (Or.inl (by omega)); exact Or.inr (Or.inr (Or.inl (by omega))); exact Or.inr (Or.inr (Or.inr (Or.inl (by omega)))); exact Or.inr (Or.inr (Or.inr (Or.inr ((by omega))))))) f44 (fun i k h => h.elim) (fun i h => by (try dsimp only at h); exact Or.inr (Or.inl (by omega)))) f50 (fun i k h => h.elim) (fun i h => by (try dsimp only at h); exact Or.inr (Or.inr (Or.inr (Or.inr ((by omega))))))), ri51⟩
          · skip
            have c54 := wt_nceq h52
            refine hKK27 _ ⟨(wt_fr.tr (wt_fr.tr (wt_fr.tr (wt_fr.tr wt_fr.rf l30 (fun i k h => by (try dsimp only at h); exact (by omega)) (fun i h => by (try dsimp only at h); rcases h with h | h | h | h | h; exact Or.inl (by omega); exact Or.inr (Or.inl (by omega)); exact Or.inr (Or.inr (Or.inl (by omega))); exact Or.inr (Or.inr (Or.inr (Or.inl (by omega)))); exact Or.inr (Or.inr (Or.inr (Or.inr ((by omega))))))) f40 (fun i k h => by (try dsimp only at h); exact (by omega)) (fun i h => by (try dsimp only at h); rcases h with h | h | h | h | h; exact Or.inl (by omega); exact Or.inr (Or.inl (by omega)); exact Or.inr (Or.inr (Or.inl (by omega))); exact Or.inr (Or.inr (Or.inr (Or.inl (by omega)))); exact Or.inr (Or.inr (Or.inr (Or.inr ((by omega))))))) f44 (fun i k h => h.elim) (fun i h => by (try dsimp only at h); exact Or.inr (Or.inl (by omega)))) f50 (fun i k h => h.elim) (fun i h => by (try dsimp only at h); exact Or.inr (Or.inr (Or.inr (Or.inr ((by omega))))))), (wt_nn1 (B := (100 : Int32)) (by omega) (by omega) (by omega)), ri51⟩ ?_
            show ((100 : Int32).toInt - (z28.1 + (1 : Int32)).toInt + 1).toNat < ((100 : Int32).toInt - z28.1.toInt + 1).toNat
            exact wt_mu1 (by omega) (by omega) (by omega)
      · skip
        have k55 : (100 : Int32).toInt = 100 := by decide
        exact ⟨wt_fr.rf, (show 0 ≤ ((0 : Int32)).toInt by omega), ri20⟩
      · skip
        have k56 : (100 : Int32).toInt = 100 := by decide
        show ((100 : Int32).toInt - (0 : Int32).toInt + 1).toNat < n
        omega
    · skip
      have c57 := wt_nceq h25
      refine wt_T_some ?_
      exact ⟨(wt_fr.tr (wt_fr.tr wt_fr.rf fσ2 (fun i k h => by (try dsimp only at h); exact Or.inl (by omega)) (fun i h => h.elim)) f19 (fun i k h => by (try dsimp only at h); exact Or.inl (by omega)) (fun i h => h.elim)), ri20⟩
  · skip
    have c58 := wt_nceq h14
    unfold wp_md_ends_B19
    have k59 : (1 : Int32).toInt = 1 := by decide
    refine wt_T_bi (wq_md_bad n hn (0 : Int32) (1 : Int32) σ2 rσ2 (by omega)) (fun r60 h61 => ?_)
    obtain ⟨f62, ri63, pp64⟩ := h61
    have bb65 := wt_bd r60.1
    have bb66 := wt_bd (wt_gf r60.2 108 0)
    have bb67 := wt_bd (wt_gf σ2 108 0)
    refine wt_T_if (fun h68 => ?_) (fun h68 => ?_)
    · skip
      have c69 := wt_ceq h68
      refine wt_T_it (fun s : Int32 × wt_St => wt_fr (fun i k => (i = 108 ∧ k = 54)) (fun i => i = 286 ∨ i = 287 ∨ i = 124 ∨ i = 288 ∨ i = 121) r60.2 s.2 ∧ 0 ≤ (s.1).toInt ∧ wt_RI s.2) (fun s : Int32 × wt_St => ((100 : Int32).toInt - s.1.toInt + 1).toNat) (fun KK70 z71 I72 hKK70 => ?_) _ _ ?_ ?_
      · skip
        obtain ⟨l73, l74, l75⟩ := I72
        unfold wp_md_ends_B30
        have k76 : (100 : Int32).toInt = 100 := by decide
        have bb77 := wt_bd z71.1
        refine wt_T_if (fun h78 => ?_) (fun h78 => ?_)
        · skip
          have c79 := wt_clt h78
          refine wt_T_some ?_
          exact ⟨(wt_fr.tr (wt_fr.tr (wt_fr.tr wt_fr.rf fσ2 (fun i k h => by (try dsimp only at h); exact Or.inl (by omega)) (fun i h => h.elim)) f62 (fun i k h => by (try dsimp only at h); exact Or.inl (by omega)) (fun i h => h.elim)) l73 (fun i k h => by (try dsimp only at h); exact Or.inr ((by omega))) (fun i h => by (try dsimp only at h); rcases h with h | h | h | h | h; exact Or.inl (by omega); exact Or.inr (Or.inl (by omega)); exact Or.inr (Or.inr (Or.inl (by omega))); exact Or.inr (Or.inr (Or.inr (Or.inl (by omega)))); exact Or.inr (Or.inr (Or.inr (Or.inr ((by omega))))))), l75⟩
        · skip
          have c80 := wt_ncl h78
          refine wt_T_bi (wq_md_greedyAhead n hn z71.1 z71.2 l75) (fun r81 h82 => ?_)
          obtain ⟨f83, ri84⟩ := h82
          refine wt_T_bi (wq_md_canWord n hn x1 r81.2 ri84 (by omega) (by omega)) (fun r85 h86 => ?_)
          obtain ⟨f87, ri88, pp89⟩ := h86
          have bb90 := wt_bd r85.1
          refine wt_T_bi (wq_md_putsBack n hn r85.2 ri88) (fun r91 h92 => ?_)
          obtain ⟨f93, ri94⟩ := h92
          refine wt_T_if (fun h95 => ?_) (fun h95 => ?_)
          · skip
            have c96 := wt_ceq h95
            refine wt_T_some ?_
            exact ⟨(wt_fr.tr (wt_fr.tr (wt_fr.tr (wt_fr.tr (wt_fr.tr (wt_fr.tr wt_fr.rf fσ2 (fun i k h => by (try dsimp only at h); exact Or.inl (by omega)) (fun i h => h.elim)) f62 (fun i k h => by (try dsimp only at h); exact Or.inl (by omega)) (fun i h => h.elim)) l73 (fun i k h => by (try dsimp only at h); exact Or.inr ((by omega))) (fun i h => by (try dsimp only at h); rcases h with h | h | h | h | h; exact Or.inl (by omega); exact Or.inr (Or.inl (by omega)); exact Or.inr (Or.inr (Or.inl (by omega))); exact Or.inr (Or.inr (Or.inr (Or.inl (by omega)))); exact Or.inr (Or.inr (Or.inr (Or.inr ((by omega))))))) f83 (fun i k h => by (try dsimp only at h); exact Or.inr ((by omega))) (fun i h => by (try dsimp only at h); rcases h with h | h | h | h | h; exact Or.inl (by omega); exact Or.inr (Or.inl (by omega)); exact Or.inr (Or.inr (Or.inl (by omega))); exact Or.inr (Or.inr (Or.inr (Or.inl (by omega)))); exact Or.inr (Or.inr (Or.inr (Or.inr ((by omega))))))) f87 (fun i k h => h.elim) (fun i h => by (try dsimp only at h); exact Or.inr (Or.inl (by omega)))) f93 (fun i k h => h.elim) (fun i h => by (try dsimp only at h); exact Or.inr (Or.inr (Or.inr (Or.inr ((by omega))))))), ri94⟩
          · skip
            have c97 := wt_nceq h95
            refine hKK70 _ ⟨(wt_fr.tr (wt_fr.tr (wt_fr.tr (wt_fr.tr wt_fr.rf l73 (fun i k h => by (try dsimp only at h); exact (by omega)) (fun i h => by (try dsimp only at h); rcases h with h | h | h | h | h; exact Or.inl (by omega); exact Or.inr (Or.inl (by omega)); exact Or.inr (Or.inr (Or.inl (by omega))); exact Or.inr (Or.inr (Or.inr (Or.inl (by omega)))); exact Or.inr (Or.inr (Or.inr (Or.inr ((by omega))))))) f83 (fun i k h => by (try dsimp only at h); exact (by omega)) (fun i h => by (try dsimp only at h); rcases h with h | h | h | h | h; exact Or.inl (by omega); exact Or.inr (Or.inl (by omega)); exact Or.inr (Or.inr (Or.inl (by omega))); exact Or.inr (Or.inr (Or.inr (Or.inl (by omega)))); exact Or.inr (Or.inr (Or.inr (Or.inr ((by omega))))))) f87 (fun i k h => h.elim) (fun i h => by (try dsimp only at h); exact Or.inr (Or.inl (by omega)))) f93 (fun i k h => h.elim) (fun i h => by (try dsimp only at h); exact Or.inr (Or.inr (Or.inr (Or.inr ((by omega))))))), (wt_nn1 (B := (100 : Int32)) (by omega) (by omega) (by omega)), ri94⟩ ?_
            show ((100 : Int32).toInt - (z71.1 + (1 : Int32)).toInt + 1).toNat < ((100 : Int32).toInt - z71.1.toInt + 1).toNat
            exact wt_mu1 (by omega) (by omega) (by omega)
      · skip
        have k98 : (100 : Int32).toInt = 100 := by decide
        exact ⟨wt_fr.rf, (show 0 ≤ ((0 : Int32)).toInt by omega), ri63⟩
      · skip
        have k99 : (100 : Int32).toInt = 100 := by decide
        show ((100 : Int32).toInt - (0 : Int32).toInt + 1).toNat < n
        omega
    · skip
      have c100 := wt_nceq h68
      refine wt_T_some ?_
      exact ⟨(wt_fr.tr (wt_fr.tr wt_fr.rf fσ2 (fun i k h => by (try dsimp only at h); exact Or.inl (by omega)) (fun i h => h.elim)) f62 (fun i k h => by (try dsimp only at h); exact Or.inl (by omega)) (fun i h => h.elim)), ri63⟩
set_option maxRecDepth 100000 in
set_option maxHeartbeats 4000000 in
theorem wq_md_exchange (n : Nat) (hn : 4294967297 < n) (x1 : Int32) (σ : wt_St) (r0 : wt_RI σ) (m0 : wt_M12 σ) : wt_T (wp_md_exchange n x1 σ) (fun q => wt_fr (fun i k => (i = 108 ∧ k = 0)) (fun i => i = 287 ∨ i = 121 ∨ i = 124 ∨ i = 111) σ q.2 ∧ wt_RI q.2 ∧ wt_M12 q.2) := by
  have bb1 := wt_bd x1
  unfold wp_md_exchange
  obtain ⟨σ2, eσ2⟩ : ∃ z : wt_St, z = wt_sf σ 108 0 (0 : Int32) := ⟨_, rfl⟩
  rw [← eσ2]
  have fσ2 := wt_fr_sf eσ2
  have vσ2 := wt_ceq (wt_v_sf eσ2)
  have k3 : (0 : Int32).toInt = 0 := by decide
  have mσ2 := wt_M_sf m0 eσ2
  have rσ2 := wt_RI_fno r0 eσ2 (Or.inr (by decide))
  refine wt_T_bi (wq_md_isText n hn x1 σ2 rσ2) (fun r4 h5 => ?_)
  obtain ⟨e6, pp7⟩ := h5
  have bb8 := wt_bd r4.1
  rw [e6]
  have bb9 := wt_bd (wt_gf σ2 108 39)
  have g10 : 0 ≤ (wt_gf σ2 108 39).toInt ∧ (wt_gf σ2 108 39).toInt ≤ 8 := wt_R_gf rσ2 7 rfl
  have tt11 : (wt_gf σ2 108 39).toInt = (wt_gf σ 108 39).toInt := congrArg Int32.toInt (fσ2.1 108 39 (by (try dsimp only); omega))
  have bb12 := wt_bd (wt_gf σ 108 39)
  have g13 : 0 ≤ (wt_gf σ 108 39).toInt ∧ (wt_gf σ 108 39).toInt ≤ 8 := wt_R_gf r0 7 rfl
  refine wt_T_if (fun h14 => ?_) (fun h14 => ?_)
  · skip
    have c15 := wt_ceq h14
    unfold wp_md_exchange_B19
    have k16 : (1 : Int32).toInt = 1 := by decide
    refine wt_T_bi (wq_md_bad n hn (1 : Int32) (1 : Int32) σ2 rσ2 (by omega)) (fun r17 h18 => ?_)
    obtain ⟨f19, ri20, pp21⟩ := h18
    have mi22 := wt_M_fr mσ2 f19 (by (try dsimp only); first | omega | exact fun h => h)
    have bb23 := wt_bd r17.1
    have bb24 := wt_bd (wt_gf r17.2 108 0)
    have bb25 := wt_bd (wt_gf σ2 108 0)
    refine wt_T_if (fun h26 => ?_) (fun h26 => ?_)
    · skip
      have c27 := wt_ceq h26
      refine wt_T_bi (wq_md_needsText n hn x1 r17.2 ri20 (by omega) (by omega)) (fun r28 h29 => ?_)
      obtain ⟨f30, ri31, pp32⟩ := h29
      have mi33 := wt_M_fr mi22 f30 (by (try dsimp only); first | omega | exact fun h => h)
      refine wt_T_bi (wq_md_often n hn r28 ri31) (fun r34 h35 => ?_)
      obtain ⟨e36, pp37⟩ := h35
      have bb38 := wt_bd r34.1
      rw [e36]
      refine wt_T_it (fun s : Int32 × Int32 × Int32 × wt_St => wt_fr (fun i k => False) (fun i => i = 121 ∨ i = 124 ∨ i = 111) r28 s.2.2.2 ∧ 0 ≤ (s.2.2.1).toInt ∧ wt_RI s.2.2.2 ∧ wt_M12 s.2.2.2) (fun s : Int32 × Int32 × Int32 × wt_St => ((26 : Int32).toInt - s.2.2.1.toInt + 0).toNat) (fun KK39 z40 I41 hKK39 => ?_) _ _ ?_ ?_
      · skip
        obtain ⟨l42, l43, l44, l45⟩ := I41
        unfold wp_md_exchange_B43
        have k46 : (26 : Int32).toInt = 26 := by decide
        have bb47 := wt_bd z40.2.2.1
        refine wt_T_if (fun h48 => ?_) (fun h48 => ?_)
        · skip
          have c49 := wt_cle h48
          refine wt_T_some ?_
          exact ⟨(wt_fr.tr (wt_fr.tr (wt_fr.tr (wt_fr.tr wt_fr.rf fσ2 (fun i k h => by (try dsimp only at h); exact (by omega)) (fun i h => h.elim)) f19 (fun i k h => by (try dsimp only at h); exact (by omega)) (fun i h => h.elim)) f30 (fun i k h => h.elim) (fun i h => by (try dsimp only at h); exact Or.inl (by omega))) l42 (fun i k h => h.elim) (fun i h => by (try dsimp only at h); rcases h with h | h | h; exact Or.inr (Or.inl (by omega)); exact Or.inr (Or.inr (Or.inl (by omega))); exact Or.inr (Or.inr (Or.inr ((by omega)))))), l44, l45⟩
        · skip
          have c50 := wt_ncle h48
          refine wt_T_it (fun s : Int32 × Int32 × wt_St => s.2.2 = z40.2.2.2 ∧ 0 ≤ (s.2.1).toInt ∧ (s.1.toInt = -1 ∨ (0 ≤ s.1.toInt ∧ s.1.toInt ≤ 337))) (fun s : Int32 × Int32 × wt_St => ((wt_ga s.2.2 111 (Int32.toNatClampNeg z40.2.2.1)).toInt - s.2.1.toInt + 0).toNat) (fun KK51 z52 I53 hKK51 => ?_) _ _ ?_ ?_
          · skip
            obtain ⟨l54, l55, l56⟩ := I53
            unfold wp_md_exchange_B56
            rw [l54]
            have bb57 := wt_tn z40.2.2.1
            have bb58 := wt_bd (wt_ga z40.2.2.2 111 (Int32.toNatClampNeg z40.2.2.1))
            have g59 := l45 (Int32.toNatClampNeg z40.2.2.1)
            have g60 : 0 ≤ (wt_ga z40.2.2.2 111 (Int32.toNatClampNeg z40.2.2.1)).toInt ∧ (wt_ga z40.2.2.2 111 (Int32.toNatClampNeg z40.2.2.1)).toInt ≤ 13 := wt_R_ga l44 1 rfl 111 (by decide) (by decide) (Int32.toNatClampNeg z40.2.2.1)
            have bb61 := wt_bd z52.2.1
            refine wt_T_gd (wt_ix (by omega) (by omega)) ?_
            refine wt_T_if (fun h62 => ?_) (fun h62 => ?_)
            · skip
              have c63 := wt_cle h62
              have bb71 := wt_bd z40.1
              have bb72 := wt_bd z40.2.1
              refine wt_T_it (fun s : Int32 × Int32 × Int32 × wt_St => wt_fr (fun i k => False) (fun i => i = 121 ∨ i = 124 ∨ i = 111) z40.2.2.2 s.2.2.2 ∧ 0 ≤ (s.2.2.1).toInt ∧ wt_RI s.2.2.2 ∧ wt_M12 s.2.2.2) (fun s : Int32 × Int32 × Int32 × wt_St => ((26 : Int32).toInt - s.2.2.1.toInt + 0).toNat) (fun KK64 z65 I66 hKK64 => ?_) _ _ ?_ ?_
              · skip
                obtain ⟨l67, l68, l69, l70⟩ := I66
                unfold wp_md_exchange_B130
                have bb73 := wt_bd z65.2.2.1
                refine wt_T_if (fun h74 => ?_) (fun h74 => ?_)
                · skip
                  have c75 := wt_cle h74
                  unfold wp_md_exchange_B279
                  have bb76 := wt_bd z65.1
                  have bb77 := wt_bd z65.2.1
                  refine hKK39 _ ⟨(wt_fr.tr (wt_fr.tr wt_fr.rf l42 (fun i k h => h.elim) (fun i h => by (try dsimp only at h); rcases h with h | h | h; exact Or.inl (by omega); exact Or.inr (Or.inl (by omega)); exact Or.inr (Or.inr ((by omega))))) l67 (fun i k h => h.elim) (fun i h => by (try dsimp only at h); rcases h with h | h | h; exact Or.inl (by omega); exact Or.inr (Or.inl (by omega)); exact Or.inr (Or.inr ((by omega))))), (wt_nn (B := (26 : Int32)) (by omega) (by omega)), l69, l70⟩ ?_
                  show ((26 : Int32).toInt - (z40.2.2.1 + (1 : Int32)).toInt + 0).toNat < ((26 : Int32).toInt - z40.2.2.1.toInt + 0).toNat
                  exact wt_mu (by omega) (by omega)
                · skip
                  have c78 := wt_ncle h74
                  have bb79 := wt_bd z52.1
                  refine wt_T_if (fun h80 => ?_) (fun h80 => ?_)
                  · skip
                    have c81 := wt_ceq h80
                    rw [wt_lm1] at c81
                    unfold wp_md_exchange_B279
                    have bb82 := wt_bd z65.1
                    have bb83 := wt_bd z65.2.1
                    refine hKK39 _ ⟨(wt_fr.tr (wt_fr.tr wt_fr.rf l42 (fun i k h => h.elim) (fun i h => by (try dsimp only at h); rcases h with h | h | h; exact Or.inl (by omega); exact Or.inr (Or.inl (by omega)); exact Or.inr (Or.inr ((by omega))))) l67 (fun i k h => h.elim) (fun i h => by (try dsimp only at h); rcases h with h | h | h; exact Or.inl (by omega); exact Or.inr (Or.inl (by omega)); exact Or.inr (Or.inr ((by omega))))), (wt_nn (B := (26 : Int32)) (by omega) (by omega)), l69, l70⟩ ?_
                    show ((26 : Int32).toInt - (z40.2.2.1 + (1 : Int32)).toInt + 0).toNat < ((26 : Int32).toInt - z40.2.2.1.toInt + 0).toNat
                    exact wt_mu (by omega) (by omega)
                  · skip
                    have c84 := wt_nceq h80
                    rw [wt_lm1] at c84
                    refine wt_T_gd (wt_ix (by omega) (by omega)) ?_
                    have bb85 := wt_tn z65.2.2.1
                    have bb86 := wt_bd (wt_ga z65.2.2.2 113 (Int32.toNatClampNeg z65.2.2.1))
                    have g87 : 0 ≤ (wt_ga z65.2.2.2 113 (Int32.toNatClampNeg z65.2.2.1)).toInt ∧ (wt_ga z65.2.2.2 113 (Int32.toNatClampNeg z65.2.2.1)).toInt ≤ 12 := wt_R_ga l69 2 rfl 113 (by decide) (by decide) (Int32.toNatClampNeg z65.2.2.1)
                    have tt88 : (wt_ga z65.2.2.2 113 (Int32.toNatClampNeg z65.2.2.1)).toInt = (wt_ga z40.2.2.2 113 (Int32.toNatClampNeg z65.2.2.1)).toInt := congrArg Int32.toInt (l67.2 113 (by (try dsimp only); omega) (Int32.toNatClampNeg z65.2.2.1))
                    have bb89 := wt_bd (wt_ga z40.2.2.2 113 (Int32.toNatClampNeg z65.2.2.1))
                    have g90 : 0 ≤ (wt_ga z40.2.2.2 113 (Int32.toNatClampNeg z65.2.2.1)).toInt ∧ (wt_ga z40.2.2.2 113 (Int32.toNatClampNeg z65.2.2.1)).toInt ≤ 12 := wt_R_ga l44 2 rfl 113 (by decide) (by decide) (Int32.toNatClampNeg z65.2.2.1)
                    have tt91 : (wt_ga z40.2.2.2 113 (Int32.toNatClampNeg z65.2.2.1)).toInt = (wt_ga r28 113 (Int32.toNatClampNeg z65.2.2.1)).toInt := congrArg Int32.toInt (l42.2 113 (by (try dsimp only); omega) (Int32.toNatClampNeg z65.2.2.1))
                    have bb92 := wt_bd (wt_ga r28 113 (Int32.toNatClampNeg z65.2.2.1))
                    have g93 : 0 ≤ (wt_ga r28 113 (Int32.toNatClampNeg z65.2.2.1)).toInt ∧ (wt_ga r28 113 (Int32.toNatClampNeg z65.2.2.1)).toInt ≤ 12 := wt_R_ga ri31 2 rfl 113 (by decide) (by decide) (Int32.toNatClampNeg z65.2.2.1)
                    have tt94 : (wt_ga r28 113 (Int32.toNatClampNeg z65.2.2.1)).toInt = (wt_ga r17.2 113 (Int32.toNatClampNeg z65.2.2.1)).toInt := congrArg Int32.toInt (f30.2 113 (by (try dsimp only); omega) (Int32.toNatClampNeg z65.2.2.1))
                    have bb95 := wt_bd (wt_ga r17.2 113 (Int32.toNatClampNeg z65.2.2.1))
                    have g96 : 0 ≤ (wt_ga r17.2 113 (Int32.toNatClampNeg z65.2.2.1)).toInt ∧ (wt_ga r17.2 113 (Int32.toNatClampNeg z65.2.2.1)).toInt ≤ 12 := wt_R_ga ri20 2 rfl 113 (by decide) (by decide) (Int32.toNatClampNeg z65.2.2.1)
                    have tt97 : (wt_ga r17.2 113 (Int32.toNatClampNeg z65.2.2.1)).toInt = (wt_ga σ2 113 (Int32.toNatClampNeg z65.2.2.1)).toInt := congrArg Int32.toInt (f19.2 113 (fun z => z) (Int32.toNatClampNeg z65.2.2.1))
                    have bb98 := wt_bd (wt_ga σ2 113 (Int32.toNatClampNeg z65.2.2.1))
                    have g99 : 0 ≤ (wt_ga σ2 113 (Int32.toNatClampNeg z65.2.2.1)).toInt ∧ (wt_ga σ2 113 (Int32.toNatClampNeg z65.2.2.1)).toInt ≤ 12 := wt_R_ga rσ2 2 rfl 113 (by decide) (by decide) (Int32.toNatClampNeg z65.2.2.1)
                    have tt100 : (wt_ga σ2 113 (Int32.toNatClampNeg z65.2.2.1)).toInt = (wt_ga σ 113 (Int32.toNatClampNeg z65.2.2.1)).toInt := congrArg Int32.toInt (fσ2.2 113 (fun z => z) (Int32.toNatClampNeg z65.2.2.1))
                    have bb101 := wt_bd (wt_ga σ 113 (Int32.toNatClampNeg z65.2.2.1))
                    have g102 : 0 ≤ (wt_ga σ 113 (Int32.toNatClampNeg z65.2.2.1)).toInt ∧ (wt_ga σ 113 (Int32.toNatClampNeg z65.2.2.1)).toInt ≤ 12 := wt_R_ga r0 2 rfl 113 (by decide) (by decide) (Int32.toNatClampNeg z65.2.2.1)
                    refine wt_T_if (fun h103 => ?_) (fun h103 => ?_)
                    · skip
                      have c104 := wt_ceq h103
                      unfold wp_md_exchange_B273
                      have bb105 := wt_bd z65.1
                      have bb106 := wt_bd z65.2.1
                      refine hKK64 _ ⟨(wt_fr.tr wt_fr.rf l67 (fun i k h => h.elim) (fun i h => by (try dsimp only at h); rcases h with h | h | h; exact Or.inl (by omega); exact Or.inr (Or.inl (by omega)); exact Or.inr (Or.inr ((by omega))))), (wt_nn (B := (26 : Int32)) (by omega) (by omega)), l69, l70⟩ ?_
                      show ((26 : Int32).toInt - (z65.2.2.1 + (1 : Int32)).toInt + 0).toNat < ((26 : Int32).toInt - z65.2.2.1.toInt + 0).toNat
                      exact wt_mu (by omega) (by omega)
                    · skip
                      have c107 := wt_nceq h103
                      refine wt_T_it (fun s : Int32 × Int32 × wt_St => s.2.2 = z65.2.2.2 ∧ 0 ≤ (s.2.1).toInt ∧ 0 ≤ s.1.toInt ∧ s.1.toInt ≤ 400) (fun s : Int32 × Int32 × wt_St => ((wt_ga s.2.2 113 (Int32.toNatClampNeg z65.2.2.1)).toInt - s.2.1.toInt + 0).toNat) (fun KK108 z109 I110 hKK108 => ?_) _ _ ?_ ?_
                      · skip
                        obtain ⟨l111, l112, l113, l114⟩ := I110
                        unfold wp_md_exchange_B162
                        rw [l111]
                        have bb115 := wt_bd z109.2.1
                        refine wt_T_gd (wt_ix (by omega) (by omega)) ?_
                        refine wt_T_if (fun h116 => ?_) (fun h116 => ?_)
                        · skip
                          have c117 := wt_cle h116
                          refine wt_T_gd (wt_ix (by omega) (by omega)) ?_
                          refine wt_T_gd (wt_ix (by omega) (by omega)) ?_
                          obtain ⟨σ118, eσ118⟩ : ∃ z : wt_St, z = wt_sa z65.2.2.2 121 (Int32.toNatClampNeg z52.1) (0 : Int32) := ⟨_, rfl⟩
                          rw [← eσ118]
                          have fσ118 := wt_fr_sa eσ118
                          have vσ118 := wt_ceq (wt_v_sa eσ118)
                          have bb119 := wt_tn z52.1
                          have mσ118 := wt_M_no l70 eσ118 (by first | decide | omega)
                          have rσ118 := wt_RI_in l69 eσ118 3 rfl (by decide) (by decide) (show 0 ≤ ((0 : Int32)).toInt by omega) (show ((0 : Int32)).toInt ≤ 400 by omega)
                          have bb120 := wt_bd z109.1
                          refine wt_T_bi (wq_md_withOne n hn z65.2.2.1 z109.1 σ118 rσ118 mσ118 (by omega) (by omega) (by omega) (by omega)) (fun r121 h122 => ?_)
                          obtain ⟨f123, ri124, mi125⟩ := h122
                          have bb126 := wt_bd r121.1
                          refine wt_T_gd (wt_ix (by omega) (by omega)) ?_
                          have bb127 := wt_bd z65.1
                          refine wt_T_if (fun h128 => ?_) (fun h128 => ?_)
                          · skip
                            have c129 := wt_clt h128
                            obtain ⟨σ130, eσ130⟩ : ∃ z : wt_St, z = wt_sa r121.2 121 (Int32.toNatClampNeg z52.1) (wt_ga z65.2.2.2 121 (Int32.toNatClampNeg z52.1)) := ⟨_, rfl⟩
                            rw [← eσ130]
                            have fσ130 := wt_fr_sa eσ130
                            have vσ130 := wt_ceq (wt_v_sa eσ130)
                            have bb131 := wt_bd (wt_ga z65.2.2.2 121 (Int32.toNatClampNeg z52.1))
                            have g132 : 0 ≤ (wt_ga z65.2.2.2 121 (Int32.toNatClampNeg z52.1)).toInt ∧ (wt_ga z65.2.2.2 121 (Int32.toNatClampNeg z52.1)).toInt ≤ 400 := wt_R_ga l69 3 rfl 121 (by decide) (by decide) (Int32.toNatClampNeg z52.1)
                            have mσ130 := wt_M_no mi125 eσ130 (by first | decide | omega)
                            have rσ130 := wt_RI_in ri124 eσ130 3 rfl (by decide) (by decide) (show 0 ≤ (wt_ga z65.2.2.2 121 (Int32.toNatClampNeg z52.1)).toInt by omega) (show (wt_ga z65.2.2.2 121 (Int32.toNatClampNeg z52.1)).toInt ≤ 400 by omega)
                            unfold wp_md_exchange_B273
                            have k133 : (100 : Int32).toInt = 100 := by decide
                            obtain ⟨j134, j134a, j134b⟩ := wt_mulI (100 : Int32) z40.2.2.1
                            rw [show (100 : Int32).toInt = 100 from by decide] at j134a
                            obtain ⟨j135, j135a, j135b⟩ := wt_addI ((100 : Int32) * z40.2.2.1) z65.2.2.1
                            refine hKK64 _ ⟨(wt_fr.tr (wt_fr.tr (wt_fr.tr (wt_fr.tr wt_fr.rf l67 (fun i k h => h.elim) (fun i h => by (try dsimp only at h); rcases h with h | h | h; exact Or.inl (by omega); exact Or.inr (Or.inl (by omega)); exact Or.inr (Or.inr ((by omega))))) fσ118 (fun i k h => h.elim) (fun i h => by (try dsimp only at h); exact Or.inl (by omega))) f123 (fun i k h => h.elim) (fun i h => by (try dsimp only at h); rcases h with h | h | h; exact Or.inl (by omega); exact Or.inr (Or.inl (by omega)); exact Or.inr (Or.inr ((by omega))))) fσ130 (fun i k h => h.elim) (fun i h => by (try dsimp only at h); exact Or.inl (by omega))), (wt_nn (B := (26 : Int32)) (by omega) (by omega)), rσ130, mσ130⟩ ?_
                            show ((26 : Int32).toInt - (z65.2.2.1 + (1 : Int32)).toInt + 0).toNat < ((26 : Int32).toInt - z65.2.2.1.toInt + 0).toNat
                            exact wt_mu (by omega) (by omega)
                          · skip
                            have c136 := wt_ncl h128
                            obtain ⟨σ137, eσ137⟩ : ∃ z : wt_St, z = wt_sa r121.2 121 (Int32.toNatClampNeg z52.1) (wt_ga z65.2.2.2 121 (Int32.toNatClampNeg z52.1)) := ⟨_, rfl⟩
                            rw [← eσ137]
                            have fσ137 := wt_fr_sa eσ137
                            have vσ137 := wt_ceq (wt_v_sa eσ137)
                            have bb138 := wt_bd (wt_ga z65.2.2.2 121 (Int32.toNatClampNeg z52.1))
                            have g139 : 0 ≤ (wt_ga z65.2.2.2 121 (Int32.toNatClampNeg z52.1)).toInt ∧ (wt_ga z65.2.2.2 121 (Int32.toNatClampNeg z52.1)).toInt ≤ 400 := wt_R_ga l69 3 rfl 121 (by decide) (by decide) (Int32.toNatClampNeg z52.1)
                            have mσ137 := wt_M_no mi125 eσ137 (by first | decide | omega)
                            have rσ137 := wt_RI_in ri124 eσ137 3 rfl (by decide) (by decide) (show 0 ≤ (wt_ga z65.2.2.2 121 (Int32.toNatClampNeg z52.1)).toInt by omega) (show (wt_ga z65.2.2.2 121 (Int32.toNatClampNeg z52.1)).toInt ≤ 400 by omega)
                            unfold wp_md_exchange_B273
                            have bb140 := wt_bd z65.2.1
                            refine hKK64 _ ⟨(wt_fr.tr (wt_fr.tr (wt_fr.tr (wt_fr.tr wt_fr.rf l67 (fun i k h => h.elim) (fun i h => by (try dsimp only at h); rcases h with h | h | h; exact Or.inl (by omega); exact Or.inr (Or.inl (by omega)); exact Or.inr (Or.inr ((by omega))))) fσ118 (fun i k h => h.elim) (fun i h => by (try dsimp only at h); exact Or.inl (by omega))) f123 (fun i k h => h.elim) (fun i h => by (try dsimp only at h); rcases h with h | h | h; exact Or.inl (by omega); exact Or.inr (Or.inl (by omega)); exact Or.inr (Or.inr ((by omega))))) fσ137 (fun i k h => h.elim) (fun i h => by (try dsimp only at h); exact Or.inl (by omega))), (wt_nn (B := (26 : Int32)) (by omega) (by omega)), rσ137, mσ137⟩ ?_
                            show ((26 : Int32).toInt - (z65.2.2.1 + (1 : Int32)).toInt + 0).toNat < ((26 : Int32).toInt - z65.2.2.1.toInt + 0).toNat
                            exact wt_mu (by omega) (by omega)
                        · skip
                          have c141 := wt_ncle h116
                          refine wt_T_bi (wq_md_cell n hn z65.2.2.1 z109.2.1 z65.2.2.2 l69 (by omega) (by omega) (by omega) (by omega)) (fun r142 h143 => ?_)
                          obtain ⟨e144, pp145⟩ := h143
                          have bb146 := wt_bd r142.1
                          rw [e144]
                          refine wt_T_gd (wt_ix (by omega) (by omega)) ?_
                          have bb147 := wt_tn r142.1
                          have bb148 := wt_bd (wt_ga z65.2.2.2 123 (Int32.toNatClampNeg r142.1))
                          have g149 : 0 ≤ (wt_ga z65.2.2.2 123 (Int32.toNatClampNeg r142.1)).toInt ∧ (wt_ga z65.2.2.2 123 (Int32.toNatClampNeg r142.1)).toInt ≤ 400 := wt_R_ga l69 4 rfl 123 (by decide) (by decide) (Int32.toNatClampNeg r142.1)
                          have tt150 : (wt_ga z65.2.2.2 123 (Int32.toNatClampNeg r142.1)).toInt = (wt_ga z40.2.2.2 123 (Int32.toNatClampNeg r142.1)).toInt := congrArg Int32.toInt (l67.2 123 (by (try dsimp only); omega) (Int32.toNatClampNeg r142.1))
                          have bb151 := wt_bd (wt_ga z40.2.2.2 123 (Int32.toNatClampNeg r142.1))
                          have g152 : 0 ≤ (wt_ga z40.2.2.2 123 (Int32.toNatClampNeg r142.1)).toInt ∧ (wt_ga z40.2.2.2 123 (Int32.toNatClampNeg r142.1)).toInt ≤ 400 := wt_R_ga l44 4 rfl 123 (by decide) (by decide) (Int32.toNatClampNeg r142.1)
                          have tt153 : (wt_ga z40.2.2.2 123 (Int32.toNatClampNeg r142.1)).toInt = (wt_ga r28 123 (Int32.toNatClampNeg r142.1)).toInt := congrArg Int32.toInt (l42.2 123 (by (try dsimp only); omega) (Int32.toNatClampNeg r142.1))
                          have bb154 := wt_bd (wt_ga r28 123 (Int32.toNatClampNeg r142.1))
                          have g155 : 0 ≤ (wt_ga r28 123 (Int32.toNatClampNeg r142.1)).toInt ∧ (wt_ga r28 123 (Int32.toNatClampNeg r142.1)).toInt ≤ 400 := wt_R_ga ri31 4 rfl 123 (by decide) (by decide) (Int32.toNatClampNeg r142.1)
                          have tt156 : (wt_ga r28 123 (Int32.toNatClampNeg r142.1)).toInt = (wt_ga r17.2 123 (Int32.toNatClampNeg r142.1)).toInt := congrArg Int32.toInt (f30.2 123 (by (try dsimp only); omega) (Int32.toNatClampNeg r142.1))
                          have bb157 := wt_bd (wt_ga r17.2 123 (Int32.toNatClampNeg r142.1))
                          have g158 : 0 ≤ (wt_ga r17.2 123 (Int32.toNatClampNeg r142.1)).toInt ∧ (wt_ga r17.2 123 (Int32.toNatClampNeg r142.1)).toInt ≤ 400 := wt_R_ga ri20 4 rfl 123 (by decide) (by decide) (Int32.toNatClampNeg r142.1)
                          have tt159 : (wt_ga r17.2 123 (Int32.toNatClampNeg r142.1)).toInt = (wt_ga σ2 123 (Int32.toNatClampNeg r142.1)).toInt := congrArg Int32.toInt (f19.2 123 (fun z => z) (Int32.toNatClampNeg r142.1))
                          have bb160 := wt_bd (wt_ga σ2 123 (Int32.toNatClampNeg r142.1))
                          have g161 : 0 ≤ (wt_ga σ2 123 (Int32.toNatClampNeg r142.1)).toInt ∧ (wt_ga σ2 123 (Int32.toNatClampNeg r142.1)).toInt ≤ 400 := wt_R_ga rσ2 4 rfl 123 (by decide) (by decide) (Int32.toNatClampNeg r142.1)
                          have tt162 : (wt_ga σ2 123 (Int32.toNatClampNeg r142.1)).toInt = (wt_ga σ 123 (Int32.toNatClampNeg r142.1)).toInt := congrArg Int32.toInt (fσ2.2 123 (fun z => z) (Int32.toNatClampNeg r142.1))
                          have bb163 := wt_bd (wt_ga σ 123 (Int32.toNatClampNeg r142.1))
                          have g164 : 0 ≤ (wt_ga σ 123 (Int32.toNatClampNeg r142.1)).toInt ∧ (wt_ga σ 123 (Int32.toNatClampNeg r142.1)).toInt ≤ 400 := wt_R_ga r0 4 rfl 123 (by decide) (by decide) (Int32.toNatClampNeg r142.1)
                          have bb165 := wt_bd z109.1
                          refine wt_T_if (fun h166 => ?_) (fun h166 => ?_)
                          · skip
                            have c167 := wt_cle h166
                            unfold wp_md_exchange_B208
                            obtain ⟨j168, j168a, j168b⟩ := wt_addI z109.2.1 (1 : Int32)
                            refine hKK108 _ ⟨rfl, (wt_nn (B := wt_ga z109.2.2 113 (Int32.toNatClampNeg z65.2.2.1)) (by omega) (by first | (rw [l111]; omega) | (rw [l111]; done) | omega)), (show 0 ≤ z109.1.toInt by omega), (show z109.1.toInt ≤ 400 by omega)⟩ ?_
                            show ((wt_ga z65.2.2.2 113 (Int32.toNatClampNeg z65.2.2.1)).toInt - (z109.2.1 + (1 : Int32)).toInt + 0).toNat < ((wt_ga z109.2.2 113 (Int32.toNatClampNeg z65.2.2.1)).toInt - z109.2.1.toInt + 0).toNat
                            exact wt_mu (by first | (rw [l111]; omega) | (rw [l111]; done) | omega) (by first | (rw [l111]; omega) | (rw [l111]; done) | omega)
                          · skip
                            have c169 := wt_ncle h166
                            refine wt_T_bi (wq_md_cell n hn z65.2.2.1 z109.2.1 z65.2.2.2 l69 (by omega) (by omega) (by omega) (by omega)) (fun r170 h171 => ?_)
                            obtain ⟨e172, pp173⟩ := h171
                            have bb174 := wt_bd r170.1
                            rw [e172]
                            refine wt_T_gd (wt_ix (by omega) (by omega)) ?_
                            unfold wp_md_exchange_B208
                            have bb175 := wt_tn r170.1
                            have bb176 := wt_bd (wt_ga z65.2.2.2 123 (Int32.toNatClampNeg r170.1))
                            have g177 : 0 ≤ (wt_ga z65.2.2.2 123 (Int32.toNatClampNeg r170.1)).toInt ∧ (wt_ga z65.2.2.2 123 (Int32.toNatClampNeg r170.1)).toInt ≤ 400 := wt_R_ga l69 4 rfl 123 (by decide) (by decide) (Int32.toNatClampNeg r170.1)
                            have tt178 : (wt_ga z65.2.2.2 123 (Int32.toNatClampNeg r170.1)).toInt = (wt_ga z40.2.2.2 123 (Int32.toNatClampNeg r170.1)).toInt := congrArg Int32.toInt (l67.2 123 (by (try dsimp only); omega) (Int32.toNatClampNeg r170.1))
                            have bb179 := wt_bd (wt_ga z40.2.2.2 123 (Int32.toNatClampNeg r170.1))
                            have g180 : 0 ≤ (wt_ga z40.2.2.2 123 (Int32.toNatClampNeg r170.1)).toInt ∧ (wt_ga z40.2.2.2 123 (Int32.toNatClampNeg r170.1)).toInt ≤ 400 := wt_R_ga l44 4 rfl 123 (by decide) (by decide) (Int32.toNatClampNeg r170.1)
                            have tt181 : (wt_ga z40.2.2.2 123 (Int32.toNatClampNeg r170.1)).toInt = (wt_ga r28 123 (Int32.toNatClampNeg r170.1)).toInt := congrArg Int32.toInt (l42.2 123 (by (try dsimp only); omega) (Int32.toNatClampNeg r170.1))
                            have bb182 := wt_bd (wt_ga r28 123 (Int32.toNatClampNeg r170.1))
                            have g183 : 0 ≤ (wt_ga r28 123 (Int32.toNatClampNeg r170.1)).toInt ∧ (wt_ga r28 123 (Int32.toNatClampNeg r170.1)).toInt ≤ 400 := wt_R_ga ri31 4 rfl 123 (by decide) (by decide) (Int32.toNatClampNeg r170.1)
                            have tt184 : (wt_ga r28 123 (Int32.toNatClampNeg r170.1)).toInt = (wt_ga r17.2 123 (Int32.toNatClampNeg r170.1)).toInt := congrArg Int32.toInt (f30.2 123 (by (try dsimp only); omega) (Int32.toNatClampNeg r170.1))
                            have bb185 := wt_bd (wt_ga r17.2 123 (Int32.toNatClampNeg r170.1))
                            have g186 : 0 ≤ (wt_ga r17.2 123 (Int32.toNatClampNeg r170.1)).toInt ∧ (wt_ga r17.2 123 (Int32.toNatClampNeg r170.1)).toInt ≤ 400 := wt_R_ga ri20 4 rfl 123 (by decide) (by decide) (Int32.toNatClampNeg r170.1)
                            have tt187 : (wt_ga r17.2 123 (Int32.toNatClampNeg r170.1)).toInt = (wt_ga σ2 123 (Int32.toNatClampNeg r170.1)).toInt := congrArg Int32.toInt (f19.2 123 (fun z => z) (Int32.toNatClampNeg r170.1))
                            have bb188 := wt_bd (wt_ga σ2 123 (Int32.toNatClampNeg r170.1))
                            have g189 : 0 ≤ (wt_ga σ2 123 (Int32.toNatClampNeg r170.1)).toInt ∧ (wt_ga σ2 123 (Int32.toNatClampNeg r170.1)).toInt ≤ 400 := wt_R_ga rσ2 4 rfl 123 (by decide) (by decide) (Int32.toNatClampNeg r170.1)
                            have tt190 : (wt_ga σ2 123 (Int32.toNatClampNeg r170.1)).toInt = (wt_ga σ 123 (Int32.toNatClampNeg r170.1)).toInt := congrArg Int32.toInt (fσ2.2 123 (fun z => z) (Int32.toNatClampNeg r170.1))
                            have bb191 := wt_bd (wt_ga σ 123 (Int32.toNatClampNeg r170.1))
                            have g192 : 0 ≤ (wt_ga σ 123 (Int32.toNatClampNeg r170.1)).toInt ∧ (wt_ga σ 123 (Int32.toNatClampNeg r170.1)).toInt ≤ 400 := wt_R_ga r0 4 rfl 123 (by decide) (by decide) (Int32.toNatClampNeg r170.1)
                            obtain ⟨j193, j193a, j193b⟩ := wt_addI z109.2.1 (1 : Int32)
                            refine hKK108 _ ⟨rfl, (wt_nn (B := wt_ga z109.2.2 113 (Int32.toNatClampNeg z65.2.2.1)) (by omega) (by first | (rw [l111]; omega) | (rw [l111]; done) | omega)), (show 0 ≤ (wt_ga z65.2.2.2 123 (Int32.toNatClampNeg r170.1)).toInt by omega), (show (wt_ga z65.2.2.2 123 (Int32.toNatClampNeg r170.1)).toInt ≤ 400 by omega)⟩ ?_
                            show ((wt_ga z65.2.2.2 113 (Int32.toNatClampNeg z65.2.2.1)).toInt - (z109.2.1 + (1 : Int32)).toInt + 0).toNat < ((wt_ga z109.2.2 113 (Int32.toNatClampNeg z65.2.2.1)).toInt - z109.2.1.toInt + 0).toNat
                            exact wt_mu (by first | (rw [l111]; omega) | (rw [l111]; done) | omega) (by first | (rw [l111]; omega) | (rw [l111]; done) | omega)
                      · skip
                        exact ⟨rfl, (show 0 ≤ ((0 : Int32)).toInt by omega), (show 0 ≤ (0 : Int32).toInt by omega), (show (0 : Int32).toInt ≤ 400 by omega)⟩
                      · skip
                        show ((wt_ga z65.2.2.2 113 (Int32.toNatClampNeg z65.2.2.1)).toInt - (0 : Int32).toInt + 0).toNat < n
                        omega
              · skip
                exact ⟨wt_fr.rf, (show 0 ≤ ((0 : Int32)).toInt by omega), l44, l45⟩
              · skip
                show ((26 : Int32).toInt - (0 : Int32).toInt + 0).toNat < n
                omega
            · skip
              have c194 := wt_ncle h62
              refine wt_T_bi (wq_md_cell n hn z40.2.2.1 z52.2.1 z40.2.2.2 l44 (by omega) (by omega) (by omega) (by omega)) (fun r195 h196 => ?_)
              obtain ⟨e197, pp198⟩ := h196
              have bb199 := wt_bd r195.1
              rw [e197]
              refine wt_T_gd (wt_ix (by omega) (by omega)) ?_
              have bb200 := wt_tn r195.1
              have bb201 := wt_bd (wt_ga z40.2.2.2 124 (Int32.toNatClampNeg r195.1))
              refine wt_T_if (fun h202 => ?_) (fun h202 => ?_)
              · skip
                have c203 := wt_ceq h202
                rw [wt_lm1] at c203
                have bb204 := wt_bd z52.1
                refine wt_T_if (fun h205 => ?_) (fun h205 => ?_)
                · skip
                  have c206 := wt_ceq h205
                  rw [wt_lm1] at c206
                  unfold wp_md_exchange_B112
                  refine wt_T_bi (wq_md_cell n hn z40.2.2.1 z52.2.1 z40.2.2.2 l44 (by omega) (by omega) (by omega) (by omega)) (fun r207 h208 => ?_)
                  obtain ⟨e209, pp210⟩ := h208
                  have bb211 := wt_bd r207.1
                  rw [e209]
                  unfold wp_md_exchange_B121
                  obtain ⟨j212, j212a, j212b⟩ := wt_addI z52.2.1 (1 : Int32)
                  refine hKK51 _ ⟨rfl, (wt_nn (B := wt_ga z52.2.2 111 (Int32.toNatClampNeg z40.2.2.1)) (by omega) (by first | (rw [l54]; omega) | (rw [l54]; done) | omega)), (show (r207.1.toInt = -1 ∨ (0 ≤ r207.1.toInt ∧ r207.1.toInt ≤ 337)) by omega)⟩ ?_
                  show ((wt_ga z40.2.2.2 111 (Int32.toNatClampNeg z40.2.2.1)).toInt - (z52.2.1 + (1 : Int32)).toInt + 0).toNat < ((wt_ga z52.2.2 111 (Int32.toNatClampNeg z40.2.2.1)).toInt - z52.2.1.toInt + 0).toNat
                  exact wt_mu (by first | (rw [l54]; omega) | (rw [l54]; done) | omega) (by first | (rw [l54]; omega) | (rw [l54]; done) | omega)
                · skip
                  have c213 := wt_nceq h205
                  rw [wt_lm1] at c213
                  refine wt_T_bi (wq_md_cell n hn z40.2.2.1 z52.2.1 z40.2.2.2 l44 (by omega) (by omega) (by omega) (by omega)) (fun r214 h215 => ?_)
                  obtain ⟨e216, pp217⟩ := h215
                  have bb218 := wt_bd r214.1
                  rw [e216]
                  refine wt_T_gd (wt_ix (by omega) (by omega)) ?_
                  refine wt_T_gd (wt_ix (by omega) (by omega)) ?_
                  have bb219 := wt_tn z52.1
                  have bb220 := wt_bd (wt_ga z40.2.2.2 121 (Int32.toNatClampNeg z52.1))
                  have g221 : 0 ≤ (wt_ga z40.2.2.2 121 (Int32.toNatClampNeg z52.1)).toInt ∧ (wt_ga z40.2.2.2 121 (Int32.toNatClampNeg z52.1)).toInt ≤ 400 := wt_R_ga l44 3 rfl 121 (by decide) (by decide) (Int32.toNatClampNeg z52.1)
                  have bb222 := wt_tn r214.1
                  have bb223 := wt_bd (wt_ga z40.2.2.2 121 (Int32.toNatClampNeg r214.1))
                  have g224 : 0 ≤ (wt_ga z40.2.2.2 121 (Int32.toNatClampNeg r214.1)).toInt ∧ (wt_ga z40.2.2.2 121 (Int32.toNatClampNeg r214.1)).toInt ≤ 400 := wt_R_ga l44 3 rfl 121 (by decide) (by decide) (Int32.toNatClampNeg r214.1)
                  refine wt_T_if (fun h225 => ?_) (fun h225 => ?_)
                  · skip
                    have c226 := wt_cle h225
                    unfold wp_md_exchange_B121
                    obtain ⟨j227, j227a, j227b⟩ := wt_addI z52.2.1 (1 : Int32)
                    refine hKK51 _ ⟨rfl, (wt_nn (B := wt_ga z52.2.2 111 (Int32.toNatClampNeg z40.2.2.1)) (by omega) (by first | (rw [l54]; omega) | (rw [l54]; done) | omega)), (show (z52.1.toInt = -1 ∨ (0 ≤ z52.1.toInt ∧ z52.1.toInt ≤ 337)) by omega)⟩ ?_
                    show ((wt_ga z40.2.2.2 111 (Int32.toNatClampNeg z40.2.2.1)).toInt - (z52.2.1 + (1 : Int32)).toInt + 0).toNat < ((wt_ga z52.2.2 111 (Int32.toNatClampNeg z40.2.2.1)).toInt - z52.2.1.toInt + 0).toNat
                    exact wt_mu (by first | (rw [l54]; omega) | (rw [l54]; done) | omega) (by first | (rw [l54]; omega) | (rw [l54]; done) | omega)
                  · skip
                    have c228 := wt_ncle h225
                    unfold wp_md_exchange_B112
                    refine wt_T_bi (wq_md_cell n hn z40.2.2.1 z52.2.1 z40.2.2.2 l44 (by omega) (by omega) (by omega) (by omega)) (fun r229 h230 => ?_)
                    obtain ⟨e231, pp232⟩ := h230
                    have bb233 := wt_bd r229.1
                    rw [e231]
                    unfold wp_md_exchange_B121
                    obtain ⟨j234, j234a, j234b⟩ := wt_addI z52.2.1 (1 : Int32)
                    refine hKK51 _ ⟨rfl, (wt_nn (B := wt_ga z52.2.2 111 (Int32.toNatClampNeg z40.2.2.1)) (by omega) (by first | (rw [l54]; omega) | (rw [l54]; done) | omega)), (show (r229.1.toInt = -1 ∨ (0 ≤ r229.1.toInt ∧ r229.1.toInt ≤ 337)) by omega)⟩ ?_
                    show ((wt_ga z40.2.2.2 111 (Int32.toNatClampNeg z40.2.2.1)).toInt - (z52.2.1 + (1 : Int32)).toInt + 0).toNat < ((wt_ga z52.2.2 111 (Int32.toNatClampNeg z40.2.2.1)).toInt - z52.2.1.toInt + 0).toNat
                    exact wt_mu (by first | (rw [l54]; omega) | (rw [l54]; done) | omega) (by first | (rw [l54]; omega) | (rw [l54]; done) | omega)
              · skip
                have c235 := wt_nceq h202
                rw [wt_lm1] at c235
                unfold wp_md_exchange_B121
                have bb236 := wt_bd z52.1
                obtain ⟨j237, j237a, j237b⟩ := wt_addI z52.2.1 (1 : Int32)
                refine hKK51 _ ⟨rfl, (wt_nn (B := wt_ga z52.2.2 111 (Int32.toNatClampNeg z40.2.2.1)) (by omega) (by first | (rw [l54]; omega) | (rw [l54]; done) | omega)), (show (z52.1.toInt = -1 ∨ (0 ≤ z52.1.toInt ∧ z52.1.toInt ≤ 337)) by omega)⟩ ?_
                show ((wt_ga z40.2.2.2 111 (Int32.toNatClampNeg z40.2.2.1)).toInt - (z52.2.1 + (1 : Int32)).toInt + 0).toNat < ((wt_ga z52.2.2 111 (Int32.toNatClampNeg z40.2.2.1)).toInt - z52.2.1.toInt + 0).toNat
                exact wt_mu (by first | (rw [l54]; omega) | (rw [l54]; done) | omega) (by first | (rw [l54]; omega) | (rw [l54]; done) | omega)
          · skip
            have bb238 := wt_tn z40.2.2.1
            have bb239 := wt_bd (wt_ga z40.2.2.2 111 (Int32.toNatClampNeg z40.2.2.1))
            have g240 := l45 (Int32.toNatClampNeg z40.2.2.1)
            have g241 : 0 ≤ (wt_ga z40.2.2.2 111 (Int32.toNatClampNeg z40.2.2.1)).toInt ∧ (wt_ga z40.2.2.2 111 (Int32.toNatClampNeg z40.2.2.1)).toInt ≤ 13 := wt_R_ga l44 1 rfl 111 (by decide) (by decide) (Int32.toNatClampNeg z40.2.2.1)
            have k242 := wt_lm1
            exact ⟨rfl, (show 0 ≤ ((0 : Int32)).toInt by omega), (show ((-1 : Int32).toInt = -1 ∨ (0 ≤ (-1 : Int32).toInt ∧ (-1 : Int32).toInt ≤ 337)) by omega)⟩
          · skip
            have bb243 := wt_tn z40.2.2.1
            have bb244 := wt_bd (wt_ga z40.2.2.2 111 (Int32.toNatClampNeg z40.2.2.1))
            have g245 := l45 (Int32.toNatClampNeg z40.2.2.1)
            have g246 : 0 ≤ (wt_ga z40.2.2.2 111 (Int32.toNatClampNeg z40.2.2.1)).toInt ∧ (wt_ga z40.2.2.2 111 (Int32.toNatClampNeg z40.2.2.1)).toInt ≤ 13 := wt_R_ga l44 1 rfl 111 (by decide) (by decide) (Int32.toNatClampNeg z40.2.2.1)
            show ((wt_ga z40.2.2.2 111 (Int32.toNatClampNeg z40.2.2.1)).toInt - (0 : Int32).toInt + 0).toNat < n
            omega
      · skip
        have k247 : (26 : Int32).toInt = 26 := by decide
        exact ⟨wt_fr.rf, (show 0 ≤ ((0 : Int32)).toInt by omega), ri31, mi33⟩
      · skip
        have k248 : (26 : Int32).toInt = 26 := by decide
        show ((26 : Int32).toInt - (0 : Int32).toInt + 0).toNat < n
        omega
    · skip
      have c249 := wt_nceq h26
      refine wt_T_some ?_
      exact ⟨(wt_fr.tr (wt_fr.tr wt_fr.rf fσ2 (fun i k h => by (try dsimp only at h); exact (by omega)) (fun i h => h.elim)) f19 (fun i k h => by (try dsimp only at h); exact (by omega)) (fun i h => h.elim)), ri20, mi22⟩
  · skip
    have c250 := wt_nceq h14
    unfold wp_md_exchange_B19
    have k251 : (1 : Int32).toInt = 1 := by decide
    refine wt_T_bi (wq_md_bad n hn (0 : Int32) (1 : Int32) σ2 rσ2 (by omega)) (fun r252 h253 => ?_)
    obtain ⟨f254, ri255, pp256⟩ := h253
    have mi257 := wt_M_fr mσ2 f254 (by (try dsimp only); first | omega | exact fun h => h)
    have bb258 := wt_bd r252.1
    have bb259 := wt_bd (wt_gf r252.2 108 0)
    have bb260 := wt_bd (wt_gf σ2 108 0)
    refine wt_T_if (fun h261 => ?_) (fun h261 => ?_)
    · skip
      have c262 := wt_ceq h261
      refine wt_T_bi (wq_md_needsText n hn x1 r252.2 ri255 (by omega) (by omega)) (fun r263 h264 => ?_)
      obtain ⟨f265, ri266, pp267⟩ := h264
      have mi268 := wt_M_fr mi257 f265 (by (try dsimp only); first | omega | exact fun h => h)
      refine wt_T_bi (wq_md_often n hn r263 ri266) (fun r269 h270 => ?_)
      obtain ⟨e271, pp272⟩ := h270
      have bb273 := wt_bd r269.1
      rw [e271]
      refine wt_T_it (fun s : Int32 × Int32 × Int32 × wt_St => wt_fr (fun i k => False) (fun i => i = 121 ∨ i = 124 ∨ i = 111) r263 s.2.2.2 ∧ 0 ≤ (s.2.2.1).toInt ∧ wt_RI s.2.2.2 ∧ wt_M12 s.2.2.2) (fun s : Int32 × Int32 × Int32 × wt_St => ((26 : Int32).toInt - s.2.2.1.toInt + 0).toNat) (fun KK274 z275 I276 hKK274 => ?_) _ _ ?_ ?_
      · skip
        obtain ⟨l277, l278, l279, l280⟩ := I276
        unfold wp_md_exchange_B43
        have k281 : (26 : Int32).toInt = 26 := by decide
        have bb282 := wt_bd z275.2.2.1
        refine wt_T_if (fun h283 => ?_) (fun h283 => ?_)
        · skip
          have c284 := wt_cle h283
          refine wt_T_some ?_
          exact ⟨(wt_fr.tr (wt_fr.tr (wt_fr.tr (wt_fr.tr wt_fr.rf fσ2 (fun i k h => by (try dsimp only at h); exact (by omega)) (fun i h => h.elim)) f254 (fun i k h => by (try dsimp only at h); exact (by omega)) (fun i h => h.elim)) f265 (fun i k h => h.elim) (fun i h => by (try dsimp only at h); exact Or.inl (by omega))) l277 (fun i k h => h.elim) (fun i h => by (try dsimp only at h); rcases h with h | h | h; exact Or.inr (Or.inl (by omega)); exact Or.inr (Or.inr (Or.inl (by omega))); exact Or.inr (Or.inr (Or.inr ((by omega)))))), l279, l280⟩
        · skip
          have c285 := wt_ncle h283
          refine wt_T_it (fun s : Int32 × Int32 × wt_St => s.2.2 = z275.2.2.2 ∧ 0 ≤ (s.2.1).toInt ∧ (s.1.toInt = -1 ∨ (0 ≤ s.1.toInt ∧ s.1.toInt ≤ 337))) (fun s : Int32 × Int32 × wt_St => ((wt_ga s.2.2 111 (Int32.toNatClampNeg z275.2.2.1)).toInt - s.2.1.toInt + 0).toNat) (fun KK286 z287 I288 hKK286 => ?_) _ _ ?_ ?_
          · skip
            obtain ⟨l289, l290, l291⟩ := I288
            unfold wp_md_exchange_B56
            rw [l289]
            have bb292 := wt_tn z275.2.2.1
            have bb293 := wt_bd (wt_ga z275.2.2.2 111 (Int32.toNatClampNeg z275.2.2.1))
            have g294 := l280 (Int32.toNatClampNeg z275.2.2.1)
            have g295 : 0 ≤ (wt_ga z275.2.2.2 111 (Int32.toNatClampNeg z275.2.2.1)).toInt ∧ (wt_ga z275.2.2.2 111 (Int32.toNatClampNeg z275.2.2.1)).toInt ≤ 13 := wt_R_ga l279 1 rfl 111 (by decide) (by decide) (Int32.toNatClampNeg z275.2.2.1)
            have bb296 := wt_bd z287.2.1
            refine wt_T_gd (wt_ix (by omega) (by omega)) ?_
            refine wt_T_if (fun h297 => ?_) (fun h297 => ?_)
            · skip
              have c298 := wt_cle h297
              have bb306 := wt_bd z275.1
              have bb307 := wt_bd z275.2.1
              refine wt_T_it (fun s : Int32 × Int32 × Int32 × wt_St => wt_fr (fun i k => False) (fun i => i = 121 ∨ i = 124 ∨ i = 111) z275.2.2.2 s.2.2.2 ∧ 0 ≤ (s.2.2.1).toInt ∧ wt_RI s.2.2.2 ∧ wt_M12 s.2.2.2) (fun s : Int32 × Int32 × Int32 × wt_St => ((26 : Int32).toInt - s.2.2.1.toInt + 0).toNat) (fun KK299 z300 I301 hKK299 => ?_) _ _ ?_ ?_
              · skip
                obtain ⟨l302, l303, l304, l305⟩ := I301
                unfold wp_md_exchange_B130
                have bb308 := wt_bd z300.2.2.1
                refine wt_T_if (fun h309 => ?_) (fun h309 => ?_)
                · skip
                  have c310 := wt_cle h309
                  unfold wp_md_exchange_B279
                  have bb311 := wt_bd z300.1
                  have bb312 := wt_bd z300.2.1
                  refine hKK274 _ ⟨(wt_fr.tr (wt_fr.tr wt_fr.rf l277 (fun i k h => h.elim) (fun i h => by (try dsimp only at h); rcases h with h | h | h; exact Or.inl (by omega); exact Or.inr (Or.inl (by omega)); exact Or.inr (Or.inr ((by omega))))) l302 (fun i k h => h.elim) (fun i h => by (try dsimp only at h); rcases h with h | h | h; exact Or.inl (by omega); exact Or.inr (Or.inl (by omega)); exact Or.inr (Or.inr ((by omega))))), (wt_nn (B := (26 : Int32)) (by omega) (by omega)), l304, l305⟩ ?_
                  show ((26 : Int32).toInt - (z275.2.2.1 + (1 : Int32)).toInt + 0).toNat < ((26 : Int32).toInt - z275.2.2.1.toInt + 0).toNat
                  exact wt_mu (by omega) (by omega)
                · skip
                  have c313 := wt_ncle h309
                  have bb314 := wt_bd z287.1
                  refine wt_T_if (fun h315 => ?_) (fun h315 => ?_)
                  · skip
                    have c316 := wt_ceq h315
                    rw [wt_lm1] at c316
                    unfold wp_md_exchange_B279
                    have bb317 := wt_bd z300.1
                    have bb318 := wt_bd z300.2.1
                    refine hKK274 _ ⟨(wt_fr.tr (wt_fr.tr wt_fr.rf l277 (fun i k h => h.elim) (fun i h => by (try dsimp only at h); rcases h with h | h | h; exact Or.inl (by omega); exact Or.inr (Or.inl (by omega)); exact Or.inr (Or.inr ((by omega))))) l302 (fun i k h => h.elim) (fun i h => by (try dsimp only at h); rcases h with h | h | h; exact Or.inl (by omega); exact Or.inr (Or.inl (by omega)); exact Or.inr (Or.inr ((by omega))))), (wt_nn (B := (26 : Int32)) (by omega) (by omega)), l304, l305⟩ ?_
                    show ((26 : Int32).toInt - (z275.2.2.1 + (1 : Int32)).toInt + 0).toNat < ((26 : Int32).toInt - z275.2.2.1.toInt + 0).toNat
                    exact wt_mu (by omega) (by omega)
                  · skip
                    have c319 := wt_nceq h315
                    rw [wt_lm1] at c319
                    refine wt_T_gd (wt_ix (by omega) (by omega)) ?_
                    have bb320 := wt_tn z300.2.2.1
                    have bb321 := wt_bd (wt_ga z300.2.2.2 113 (Int32.toNatClampNeg z300.2.2.1))
                    have g322 : 0 ≤ (wt_ga z300.2.2.2 113 (Int32.toNatClampNeg z300.2.2.1)).toInt ∧ (wt_ga z300.2.2.2 113 (Int32.toNatClampNeg z300.2.2.1)).toInt ≤ 12 := wt_R_ga l304 2 rfl 113 (by decide) (by decide) (Int32.toNatClampNeg z300.2.2.1)
                    have tt323 : (wt_ga z300.2.2.2 113 (Int32.toNatClampNeg z300.2.2.1)).toInt = (wt_ga z275.2.2.2 113 (Int32.toNatClampNeg z300.2.2.1)).toInt := congrArg Int32.toInt (l302.2 113 (by (try dsimp only); omega) (Int32.toNatClampNeg z300.2.2.1))
                    have bb324 := wt_bd (wt_ga z275.2.2.2 113 (Int32.toNatClampNeg z300.2.2.1))
                    have g325 : 0 ≤ (wt_ga z275.2.2.2 113 (Int32.toNatClampNeg z300.2.2.1)).toInt ∧ (wt_ga z275.2.2.2 113 (Int32.toNatClampNeg z300.2.2.1)).toInt ≤ 12 := wt_R_ga l279 2 rfl 113 (by decide) (by decide) (Int32.toNatClampNeg z300.2.2.1)
                    have tt326 : (wt_ga z275.2.2.2 113 (Int32.toNatClampNeg z300.2.2.1)).toInt = (wt_ga r263 113 (Int32.toNatClampNeg z300.2.2.1)).toInt := congrArg Int32.toInt (l277.2 113 (by (try dsimp only); omega) (Int32.toNatClampNeg z300.2.2.1))
                    have bb327 := wt_bd (wt_ga r263 113 (Int32.toNatClampNeg z300.2.2.1))
                    have g328 : 0 ≤ (wt_ga r263 113 (Int32.toNatClampNeg z300.2.2.1)).toInt ∧ (wt_ga r263 113 (Int32.toNatClampNeg z300.2.2.1)).toInt ≤ 12 := wt_R_ga ri266 2 rfl 113 (by decide) (by decide) (Int32.toNatClampNeg z300.2.2.1)
                    have tt329 : (wt_ga r263 113 (Int32.toNatClampNeg z300.2.2.1)).toInt = (wt_ga r252.2 113 (Int32.toNatClampNeg z300.2.2.1)).toInt := congrArg Int32.toInt (f265.2 113 (by (try dsimp only); omega) (Int32.toNatClampNeg z300.2.2.1))
                    have bb330 := wt_bd (wt_ga r252.2 113 (Int32.toNatClampNeg z300.2.2.1))
                    have g331 : 0 ≤ (wt_ga r252.2 113 (Int32.toNatClampNeg z300.2.2.1)).toInt ∧ (wt_ga r252.2 113 (Int32.toNatClampNeg z300.2.2.1)).toInt ≤ 12 := wt_R_ga ri255 2 rfl 113 (by decide) (by decide) (Int32.toNatClampNeg z300.2.2.1)
                    have tt332 : (wt_ga r252.2 113 (Int32.toNatClampNeg z300.2.2.1)).toInt = (wt_ga σ2 113 (Int32.toNatClampNeg z300.2.2.1)).toInt := congrArg Int32.toInt (f254.2 113 (fun z => z) (Int32.toNatClampNeg z300.2.2.1))
                    have bb333 := wt_bd (wt_ga σ2 113 (Int32.toNatClampNeg z300.2.2.1))
                    have g334 : 0 ≤ (wt_ga σ2 113 (Int32.toNatClampNeg z300.2.2.1)).toInt ∧ (wt_ga σ2 113 (Int32.toNatClampNeg z300.2.2.1)).toInt ≤ 12 := wt_R_ga rσ2 2 rfl 113 (by decide) (by decide) (Int32.toNatClampNeg z300.2.2.1)
                    have tt335 : (wt_ga σ2 113 (Int32.toNatClampNeg z300.2.2.1)).toInt = (wt_ga σ 113 (Int32.toNatClampNeg z300.2.2.1)).toInt := congrArg Int32.toInt (fσ2.2 113 (fun z => z) (Int32.toNatClampNeg z300.2.2.1))
                    have bb336 := wt_bd (wt_ga σ 113 (Int32.toNatClampNeg z300.2.2.1))
                    have g337 : 0 ≤ (wt_ga σ 113 (Int32.toNatClampNeg z300.2.2.1)).toInt ∧ (wt_ga σ 113 (Int32.toNatClampNeg z300.2.2.1)).toInt ≤ 12 := wt_R_ga r0 2 rfl 113 (by decide) (by decide) (Int32.toNatClampNeg z300.2.2.1)
                    refine wt_T_if (fun h338 => ?_) (fun h338 => ?_)
                    · skip
                      have c339 := wt_ceq h338
                      unfold wp_md_exchange_B273
                      have bb340 := wt_bd z300.1
                      have bb341 := wt_bd z300.2.1
                      refine hKK299 _ ⟨(wt_fr.tr wt_fr.rf l302 (fun i k h => h.elim) (fun i h => by (try dsimp only at h); rcases h with h | h | h; exact Or.inl (by omega); exact Or.inr (Or.inl (by omega)); exact Or.inr (Or.inr ((by omega))))), (wt_nn (B := (26 : Int32)) (by omega) (by omega)), l304, l305⟩ ?_
                      show ((26 : Int32).toInt - (z300.2.2.1 + (1 : Int32)).toInt + 0).toNat < ((26 : Int32).toInt - z300.2.2.1.toInt + 0).toNat
                      exact wt_mu (by omega) (by omega)
                    · skip
                      have c342 := wt_nceq h338
                      refine wt_T_it (fun s : Int32 × Int32 × wt_St => s.2.2 = z300.2.2.2 ∧ 0 ≤ (s.2.1).toInt ∧ 0 ≤ s.1.toInt ∧ s.1.toInt ≤ 400) (fun s : Int32 × Int32 × wt_St => ((wt_ga s.2.2 113 (Int32.toNatClampNeg z300.2.2.1)).toInt - s.2.1.toInt + 0).toNat) (fun KK343 z344 I345 hKK343 => ?_) _ _ ?_ ?_
                      · skip
                        obtain ⟨l346, l347, l348, l349⟩ := I345
                        unfold wp_md_exchange_B162
                        rw [l346]
                        have bb350 := wt_bd z344.2.1
                        refine wt_T_gd (wt_ix (by omega) (by omega)) ?_
                        refine wt_T_if (fun h351 => ?_) (fun h351 => ?_)
                        · skip
                          have c352 := wt_cle h351
                          refine wt_T_gd (wt_ix (by omega) (by omega)) ?_
                          refine wt_T_gd (wt_ix (by omega) (by omega)) ?_
                          obtain ⟨σ353, eσ353⟩ : ∃ z : wt_St, z = wt_sa z300.2.2.2 121 (Int32.toNatClampNeg z287.1) (0 : Int32) := ⟨_, rfl⟩
                          rw [← eσ353]
                          have fσ353 := wt_fr_sa eσ353
                          have vσ353 := wt_ceq (wt_v_sa eσ353)
                          have bb354 := wt_tn z287.1
                          have mσ353 := wt_M_no l305 eσ353 (by first | decide | omega)
                          have rσ353 := wt_RI_in l304 eσ353 3 rfl (by decide) (by decide) (show 0 ≤ ((0 : Int32)).toInt by omega) (show ((0 : Int32)).toInt ≤ 400 by omega)
                          have bb355 := wt_bd z344.1
                          refine wt_T_bi (wq_md_withOne n hn z300.2.2.1 z344.1 σ353 rσ353 mσ353 (by omega) (by omega) (by omega) (by omega)) (fun r356 h357 => ?_)
                          obtain ⟨f358, ri359, mi360⟩ := h357
                          have bb361 := wt_bd r356.1
                          refine wt_T_gd (wt_ix (by omega) (by omega)) ?_
                          have bb362 := wt_bd z300.1
                          refine wt_T_if (fun h363 => ?_) (fun h363 => ?_)
                          · skip
                            have c364 := wt_clt h363
                            obtain ⟨σ365, eσ365⟩ : ∃ z : wt_St, z = wt_sa r356.2 121 (Int32.toNatClampNeg z287.1) (wt_ga z300.2.2.2 121 (Int32.toNatClampNeg z287.1)) := ⟨_, rfl⟩
                            rw [← eσ365]
                            have fσ365 := wt_fr_sa eσ365
                            have vσ365 := wt_ceq (wt_v_sa eσ365)
                            have bb366 := wt_bd (wt_ga z300.2.2.2 121 (Int32.toNatClampNeg z287.1))
                            have g367 : 0 ≤ (wt_ga z300.2.2.2 121 (Int32.toNatClampNeg z287.1)).toInt ∧ (wt_ga z300.2.2.2 121 (Int32.toNatClampNeg z287.1)).toInt ≤ 400 := wt_R_ga l304 3 rfl 121 (by decide) (by decide) (Int32.toNatClampNeg z287.1)
                            have mσ365 := wt_M_no mi360 eσ365 (by first | decide | omega)
                            have rσ365 := wt_RI_in ri359 eσ365 3 rfl (by decide) (by decide) (show 0 ≤ (wt_ga z300.2.2.2 121 (Int32.toNatClampNeg z287.1)).toInt by omega) (show (wt_ga z300.2.2.2 121 (Int32.toNatClampNeg z287.1)).toInt ≤ 400 by omega)
                            unfold wp_md_exchange_B273
                            have k368 : (100 : Int32).toInt = 100 := by decide
                            obtain ⟨j369, j369a, j369b⟩ := wt_mulI (100 : Int32) z275.2.2.1
                            rw [show (100 : Int32).toInt = 100 from by decide] at j369a
                            obtain ⟨j370, j370a, j370b⟩ := wt_addI ((100 : Int32) * z275.2.2.1) z300.2.2.1
                            refine hKK299 _ ⟨(wt_fr.tr (wt_fr.tr (wt_fr.tr (wt_fr.tr wt_fr.rf l302 (fun i k h => h.elim) (fun i h => by (try dsimp only at h); rcases h with h | h | h; exact Or.inl (by omega); exact Or.inr (Or.inl (by omega)); exact Or.inr (Or.inr ((by omega))))) fσ353 (fun i k h => h.elim) (fun i h => by (try dsimp only at h); exact Or.inl (by omega))) f358 (fun i k h => h.elim) (fun i h => by (try dsimp only at h); rcases h with h | h | h; exact Or.inl (by omega); exact Or.inr (Or.inl (by omega)); exact Or.inr (Or.inr ((by omega))))) fσ365 (fun i k h => h.elim) (fun i h => by (try dsimp only at h); exact Or.inl (by omega))), (wt_nn (B := (26 : Int32)) (by omega) (by omega)), rσ365, mσ365⟩ ?_
                            show ((26 : Int32).toInt - (z300.2.2.1 + (1 : Int32)).toInt + 0).toNat < ((26 : Int32).toInt - z300.2.2.1.toInt + 0).toNat
                            exact wt_mu (by omega) (by omega)
                          · skip
                            have c371 := wt_ncl h363
                            obtain ⟨σ372, eσ372⟩ : ∃ z : wt_St, z = wt_sa r356.2 121 (Int32.toNatClampNeg z287.1) (wt_ga z300.2.2.2 121 (Int32.toNatClampNeg z287.1)) := ⟨_, rfl⟩
                            rw [← eσ372]
                            have fσ372 := wt_fr_sa eσ372
                            have vσ372 := wt_ceq (wt_v_sa eσ372)
                            have bb373 := wt_bd (wt_ga z300.2.2.2 121 (Int32.toNatClampNeg z287.1))
                            have g374 : 0 ≤ (wt_ga z300.2.2.2 121 (Int32.toNatClampNeg z287.1)).toInt ∧ (wt_ga z300.2.2.2 121 (Int32.toNatClampNeg z287.1)).toInt ≤ 400 := wt_R_ga l304 3 rfl 121 (by decide) (by decide) (Int32.toNatClampNeg z287.1)
                            have mσ372 := wt_M_no mi360 eσ372 (by first | decide | omega)
                            have rσ372 := wt_RI_in ri359 eσ372 3 rfl (by decide) (by decide) (show 0 ≤ (wt_ga z300.2.2.2 121 (Int32.toNatClampNeg z287.1)).toInt by omega) (show (wt_ga z300.2.2.2 121 (Int32.toNatClampNeg z287.1)).toInt ≤ 400 by omega)
                            unfold wp_md_exchange_B273
                            have bb375 := wt_bd z300.2.1
                            refine hKK299 _ ⟨(wt_fr.tr (wt_fr.tr (wt_fr.tr (wt_fr.tr wt_fr.rf l302 (fun i k h => h.elim) (fun i h => by (try dsimp only at h); rcases h with h | h | h; exact Or.inl (by omega); exact Or.inr (Or.inl (by omega)); exact Or.inr (Or.inr ((by omega))))) fσ353 (fun i k h => h.elim) (fun i h => by (try dsimp only at h); exact Or.inl (by omega))) f358 (fun i k h => h.elim) (fun i h => by (try dsimp only at h); rcases h with h | h | h; exact Or.inl (by omega); exact Or.inr (Or.inl (by omega)); exact Or.inr (Or.inr ((by omega))))) fσ372 (fun i k h => h.elim) (fun i h => by (try dsimp only at h); exact Or.inl (by omega))), (wt_nn (B := (26 : Int32)) (by omega) (by omega)), rσ372, mσ372⟩ ?_
                            show ((26 : Int32).toInt - (z300.2.2.1 + (1 : Int32)).toInt + 0).toNat < ((26 : Int32).toInt - z300.2.2.1.toInt + 0).toNat
                            exact wt_mu (by omega) (by omega)
                        · skip
                          have c376 := wt_ncle h351
                          refine wt_T_bi (wq_md_cell n hn z300.2.2.1 z344.2.1 z300.2.2.2 l304 (by omega) (by omega) (by omega) (by omega)) (fun r377 h378 => ?_)
                          obtain ⟨e379, pp380⟩ := h378
                          have bb381 := wt_bd r377.1
                          rw [e379]
                          refine wt_T_gd (wt_ix (by omega) (by omega)) ?_
                          have bb382 := wt_tn r377.1
                          have bb383 := wt_bd (wt_ga z300.2.2.2 123 (Int32.toNatClampNeg r377.1))
                          have g384 : 0 ≤ (wt_ga z300.2.2.2 123 (Int32.toNatClampNeg r377.1)).toInt ∧ (wt_ga z300.2.2.2 123 (Int32.toNatClampNeg r377.1)).toInt ≤ 400 := wt_R_ga l304 4 rfl 123 (by decide) (by decide) (Int32.toNatClampNeg r377.1)
                          have tt385 : (wt_ga z300.2.2.2 123 (Int32.toNatClampNeg r377.1)).toInt = (wt_ga z275.2.2.2 123 (Int32.toNatClampNeg r377.1)).toInt := congrArg Int32.toInt (l302.2 123 (by (try dsimp only); omega) (Int32.toNatClampNeg r377.1))
                          have bb386 := wt_bd (wt_ga z275.2.2.2 123 (Int32.toNatClampNeg r377.1))
                          have g387 : 0 ≤ (wt_ga z275.2.2.2 123 (Int32.toNatClampNeg r377.1)).toInt ∧ (wt_ga z275.2.2.2 123 (Int32.toNatClampNeg r377.1)).toInt ≤ 400 := wt_R_ga l279 4 rfl 123 (by decide) (by decide) (Int32.toNatClampNeg r377.1)
                          have tt388 : (wt_ga z275.2.2.2 123 (Int32.toNatClampNeg r377.1)).toInt = (wt_ga r263 123 (Int32.toNatClampNeg r377.1)).toInt := congrArg Int32.toInt (l277.2 123 (by (try dsimp only); omega) (Int32.toNatClampNeg r377.1))
                          have bb389 := wt_bd (wt_ga r263 123 (Int32.toNatClampNeg r377.1))
                          have g390 : 0 ≤ (wt_ga r263 123 (Int32.toNatClampNeg r377.1)).toInt ∧ (wt_ga r263 123 (Int32.toNatClampNeg r377.1)).toInt ≤ 400 := wt_R_ga ri266 4 rfl 123 (by decide) (by decide) (Int32.toNatClampNeg r377.1)
                          have tt391 : (wt_ga r263 123 (Int32.toNatClampNeg r377.1)).toInt = (wt_ga r252.2 123 (Int32.toNatClampNeg r377.1)).toInt := congrArg Int32.toInt (f265.2 123 (by (try dsimp only); omega) (Int32.toNatClampNeg r377.1))
                          have bb392 := wt_bd (wt_ga r252.2 123 (Int32.toNatClampNeg r377.1))
                          have g393 : 0 ≤ (wt_ga r252.2 123 (Int32.toNatClampNeg r377.1)).toInt ∧ (wt_ga r252.2 123 (Int32.toNatClampNeg r377.1)).toInt ≤ 400 := wt_R_ga ri255 4 rfl 123 (by decide) (by decide) (Int32.toNatClampNeg r377.1)
                          have tt394 : (wt_ga r252.2 123 (Int32.toNatClampNeg r377.1)).toInt = (wt_ga σ2 123 (Int32.toNatClampNeg r377.1)).toInt := congrArg Int32.toInt (f254.2 123 (fun z => z) (Int32.toNatClampNeg r377.1))
                          have bb395 := wt_bd (wt_ga σ2 123 (Int32.toNatClampNeg r377.1))
                          have g396 : 0 ≤ (wt_ga σ2 123 (Int32.toNatClampNeg r377.1)).toInt ∧ (wt_ga σ2 123 (Int32.toNatClampNeg r377.1)).toInt ≤ 400 := wt_R_ga rσ2 4 rfl 123 (by decide) (by decide) (Int32.toNatClampNeg r377.1)
                          have tt397 : (wt_ga σ2 123 (Int32.toNatClampNeg r377.1)).toInt = (wt_ga σ 123 (Int32.toNatClampNeg r377.1)).toInt := congrArg Int32.toInt (fσ2.2 123 (fun z => z) (Int32.toNatClampNeg r377.1))
                          have bb398 := wt_bd (wt_ga σ 123 (Int32.toNatClampNeg r377.1))
                          have g399 : 0 ≤ (wt_ga σ 123 (Int32.toNatClampNeg r377.1)).toInt ∧ (wt_ga σ 123 (Int32.toNatClampNeg r377.1)).toInt ≤ 400 := wt_R_ga r0 4 rfl 123 (by decide) (by decide) (Int32.toNatClampNeg r377.1)
                          have bb400 := wt_bd z344.1
                          refine wt_T_if (fun h401 => ?_) (fun h401 => ?_)
                          · skip
                            have c402 := wt_cle h401
                            unfold wp_md_exchange_B208
                            obtain ⟨j403, j403a, j403b⟩ := wt_addI z344.2.1 (1 : Int32)
                            refine hKK343 _ ⟨rfl, (wt_nn (B := wt_ga z344.2.2 113 (Int32.toNatClampNeg z300.2.2.1)) (by omega) (by first | (rw [l346]; omega) | (rw [l346]; done) | omega)), (show 0 ≤ z344.1.toInt by omega), (show z344.1.toInt ≤ 400 by omega)⟩ ?_
                            show ((wt_ga z300.2.2.2 113 (Int32.toNatClampNeg z300.2.2.1)).toInt - (z344.2.1 + (1 : Int32)).toInt + 0).toNat < ((wt_ga z344.2.2 113 (Int32.toNatClampNeg z300.2.2.1)).toInt - z344.2.1.toInt + 0).toNat
                            exact wt_mu (by first | (rw [l346]; omega) | (rw [l346]; done) | omega) (by first | (rw [l346]; omega) | (rw [l346]; done) | omega)
                          · skip
                            have c404 := wt_ncle h401
                            refine wt_T_bi (wq_md_cell n hn z300.2.2.1 z344.2.1 z300.2.2.2 l304 (by omega) (by omega) (by omega) (by omega)) (fun r405 h406 => ?_)
                            obtain ⟨e407, pp408⟩ := h406
                            have bb409 := wt_bd r405.1
                            rw [e407]
                            refine wt_T_gd (wt_ix (by omega) (by omega)) ?_
                            unfold wp_md_exchange_B208
                            have bb410 := wt_tn r405.1
                            have bb411 := wt_bd (wt_ga z300.2.2.2 123 (Int32.toNatClampNeg r405.1))
                            have g412 : 0 ≤ (wt_ga z300.2.2.2 123 (Int32.toNatClampNeg r405.1)).toInt ∧ (wt_ga z300.2.2.2 123 (Int32.toNatClampNeg r405.1)).toInt ≤ 400 := wt_R_ga l304 4 rfl 123 (by decide) (by decide) (Int32.toNatClampNeg r405.1)
                            have tt413 : (wt_ga z300.2.2.2 123 (Int32.toNatClampNeg r405.1)).toInt = (wt_ga z275.2.2.2 123 (Int32.toNatClampNeg r405.1)).toInt := congrArg Int32.toInt (l302.2 123 (by (try dsimp only); omega) (Int32.toNatClampNeg r405.1))
                            have bb414 := wt_bd (wt_ga z275.2.2.2 123 (Int32.toNatClampNeg r405.1))
                            have g415 : 0 ≤ (wt_ga z275.2.2.2 123 (Int32.toNatClampNeg r405.1)).toInt ∧ (wt_ga z275.2.2.2 123 (Int32.toNatClampNeg r405.1)).toInt ≤ 400 := wt_R_ga l279 4 rfl 123 (by decide) (by decide) (Int32.toNatClampNeg r405.1)
                            have tt416 : (wt_ga z275.2.2.2 123 (Int32.toNatClampNeg r405.1)).toInt = (wt_ga r263 123 (Int32.toNatClampNeg r405.1)).toInt := congrArg Int32.toInt (l277.2 123 (by (try dsimp only); omega) (Int32.toNatClampNeg r405.1))
                            have bb417 := wt_bd (wt_ga r263 123 (Int32.toNatClampNeg r405.1))
                            have g418 : 0 ≤ (wt_ga r263 123 (Int32.toNatClampNeg r405.1)).toInt ∧ (wt_ga r263 123 (Int32.toNatClampNeg r405.1)).toInt ≤ 400 := wt_R_ga ri266 4 rfl 123 (by decide) (by decide) (Int32.toNatClampNeg r405.1)
                            have tt419 : (wt_ga r263 123 (Int32.toNatClampNeg r405.1)).toInt = (wt_ga r252.2 123 (Int32.toNatClampNeg r405.1)).toInt := congrArg Int32.toInt (f265.2 123 (by (try dsimp only); omega) (Int32.toNatClampNeg r405.1))
                            have bb420 := wt_bd (wt_ga r252.2 123 (Int32.toNatClampNeg r405.1))
                            have g421 : 0 ≤ (wt_ga r252.2 123 (Int32.toNatClampNeg r405.1)).toInt ∧ (wt_ga r252.2 123 (Int32.toNatClampNeg r405.1)).toInt ≤ 400 := wt_R_ga ri255 4 rfl 123 (by decide) (by decide) (Int32.toNatClampNeg r405.1)
                            have tt422 : (wt_ga r252.2 123 (Int32.toNatClampNeg r405.1)).toInt = (wt_ga σ2 123 (Int32.toNatClampNeg r405.1)).toInt := congrArg Int32.toInt (f254.2 123 (fun z => z) (Int32.toNatClampNeg r405.1))
                            have bb423 := wt_bd (wt_ga σ2 123 (Int32.toNatClampNeg r405.1))
                            have g424 : 0 ≤ (wt_ga σ2 123 (Int32.toNatClampNeg r405.1)).toInt ∧ (wt_ga σ2 123 (Int32.toNatClampNeg r405.1)).toInt ≤ 400 := wt_R_ga rσ2 4 rfl 123 (by decide) (by decide) (Int32.toNatClampNeg r405.1)
                            have tt425 : (wt_ga σ2 123 (Int32.toNatClampNeg r405.1)).toInt = (wt_ga σ 123 (Int32.toNatClampNeg r405.1)).toInt := congrArg Int32.toInt (fσ2.2 123 (fun z => z) (Int32.toNatClampNeg r405.1))
                            have bb426 := wt_bd (wt_ga σ 123 (Int32.toNatClampNeg r405.1))
                            have g427 : 0 ≤ (wt_ga σ 123 (Int32.toNatClampNeg r405.1)).toInt ∧ (wt_ga σ 123 (Int32.toNatClampNeg r405.1)).toInt ≤ 400 := wt_R_ga r0 4 rfl 123 (by decide) (by decide) (Int32.toNatClampNeg r405.1)
                            obtain ⟨j428, j428a, j428b⟩ := wt_addI z344.2.1 (1 : Int32)
                            refine hKK343 _ ⟨rfl, (wt_nn (B := wt_ga z344.2.2 113 (Int32.toNatClampNeg z300.2.2.1)) (by omega) (by first | (rw [l346]; omega) | (rw [l346]; done) | omega)), (show 0 ≤ (wt_ga z300.2.2.2 123 (Int32.toNatClampNeg r405.1)).toInt by omega), (show (wt_ga z300.2.2.2 123 (Int32.toNatClampNeg r405.1)).toInt ≤ 400 by omega)⟩ ?_
                            show ((wt_ga z300.2.2.2 113 (Int32.toNatClampNeg z300.2.2.1)).toInt - (z344.2.1 + (1 : Int32)).toInt + 0).toNat < ((wt_ga z344.2.2 113 (Int32.toNatClampNeg z300.2.2.1)).toInt - z344.2.1.toInt + 0).toNat
                            exact wt_mu (by first | (rw [l346]; omega) | (rw [l346]; done) | omega) (by first | (rw [l346]; omega) | (rw [l346]; done) | omega)
                      · skip
                        exact ⟨rfl, (show 0 ≤ ((0 : Int32)).toInt by omega), (show 0 ≤ (0 : Int32).toInt by omega), (show (0 : Int32).toInt ≤ 400 by omega)⟩
                      · skip
                        show ((wt_ga z300.2.2.2 113 (Int32.toNatClampNeg z300.2.2.1)).toInt - (0 : Int32).toInt + 0).toNat < n
                        omega
              · skip
                exact ⟨wt_fr.rf, (show 0 ≤ ((0 : Int32)).toInt by omega), l279, l280⟩
              · skip
                show ((26 : Int32).toInt - (0 : Int32).toInt + 0).toNat < n
                omega
            · skip
              have c429 := wt_ncle h297
              refine wt_T_bi (wq_md_cell n hn z275.2.2.1 z287.2.1 z275.2.2.2 l279 (by omega) (by omega) (by omega) (by omega)) (fun r430 h431 => ?_)
              obtain ⟨e432, pp433⟩ := h431
              have bb434 := wt_bd r430.1
              rw [e432]
              refine wt_T_gd (wt_ix (by omega) (by omega)) ?_
              have bb435 := wt_tn r430.1
              have bb436 := wt_bd (wt_ga z275.2.2.2 124 (Int32.toNatClampNeg r430.1))
              refine wt_T_if (fun h437 => ?_) (fun h437 => ?_)
              · skip
                have c438 := wt_ceq h437
                rw [wt_lm1] at c438
                have bb439 := wt_bd z287.1
                refine wt_T_if (fun h440 => ?_) (fun h440 => ?_)
                · skip
                  have c441 := wt_ceq h440
                  rw [wt_lm1] at c441
                  unfold wp_md_exchange_B112
                  refine wt_T_bi (wq_md_cell n hn z275.2.2.1 z287.2.1 z275.2.2.2 l279 (by omega) (by omega) (by omega) (by omega)) (fun r442 h443 => ?_)
                  obtain ⟨e444, pp445⟩ := h443
                  have bb446 := wt_bd r442.1
                  rw [e444]
                  unfold wp_md_exchange_B121
                  obtain ⟨j447, j447a, j447b⟩ := wt_addI z287.2.1 (1 : Int32)
                  refine hKK286 _ ⟨rfl, (wt_nn (B := wt_ga z287.2.2 111 (Int32.toNatClampNeg z275.2.2.1)) (by omega) (by first | (rw [l289]; omega) | (rw [l289]; done) | omega)), (show (r442.1.toInt = -1 ∨ (0 ≤ r442.1.toInt ∧ r442.1.toInt ≤ 337)) by omega)⟩ ?_
                  show ((wt_ga z275.2.2.2 111 (Int32.toNatClampNeg z275.2.2.1)).toInt - (z287.2.1 + (1 : Int32)).toInt + 0).toNat < ((wt_ga z287.2.2 111 (Int32.toNatClampNeg z275.2.2.1)).toInt - z287.2.1.toInt + 0).toNat
                  exact wt_mu (by first | (rw [l289]; omega) | (rw [l289]; done) | omega) (by first | (rw [l289]; omega) | (rw [l289]; done) | omega)
                · skip
                  have c448 := wt_nceq h440
                  rw [wt_lm1] at c448
                  refine wt_T_bi (wq_md_cell n hn z275.2.2.1 z287.2.1 z275.2.2.2 l279 (by omega) (by omega) (by omega) (by omega)) (fun r449 h450 => ?_)
                  obtain ⟨e451, pp452⟩ := h450
                  have bb453 := wt_bd r449.1
                  rw [e451]
                  refine wt_T_gd (wt_ix (by omega) (by omega)) ?_
                  refine wt_T_gd (wt_ix (by omega) (by omega)) ?_
                  have bb454 := wt_tn z287.1
                  have bb455 := wt_bd (wt_ga z275.2.2.2 121 (Int32.toNatClampNeg z287.1))
                  have g456 : 0 ≤ (wt_ga z275.2.2.2 121 (Int32.toNatClampNeg z287.1)).toInt ∧ (wt_ga z275.2.2.2 121 (Int32.toNatClampNeg z287.1)).toInt ≤ 400 := wt_R_ga l279 3 rfl 121 (by decide) (by decide) (Int32.toNatClampNeg z287.1)
                  have bb457 := wt_tn r449.1
                  have bb458 := wt_bd (wt_ga z275.2.2.2 121 (Int32.toNatClampNeg r449.1))
                  have g459 : 0 ≤ (wt_ga z275.2.2.2 121 (Int32.toNatClampNeg r449.1)).toInt ∧ (wt_ga z275.2.2.2 121 (Int32.toNatClampNeg r449.1)).toInt ≤ 400 := wt_R_ga l279 3 rfl 121 (by decide) (by decide) (Int32.toNatClampNeg r449.1)
                  refine wt_T_if (fun h460 => ?_) (fun h460 => ?_)
                  · skip
                    have c461 := wt_cle h460
                    unfold wp_md_exchange_B121
                    obtain ⟨j462, j462a, j462b⟩ := wt_addI z287.2.1 (1 : Int32)
                    refine hKK286 _ ⟨rfl, (wt_nn (B := wt_ga z287.2.2 111 (Int32.toNatClampNeg z275.2.2.1)) (by omega) (by first | (rw [l289]; omega) | (rw [l289]; done) | omega)), (show (z287.1.toInt = -1 ∨ (0 ≤ z287.1.toInt ∧ z287.1.toInt ≤ 337)) by omega)⟩ ?_
                    show ((wt_ga z275.2.2.2 111 (Int32.toNatClampNeg z275.2.2.1)).toInt - (z287.2.1 + (1 : Int32)).toInt + 0).toNat < ((wt_ga z287.2.2 111 (Int32.toNatClampNeg z275.2.2.1)).toInt - z287.2.1.toInt + 0).toNat
                    exact wt_mu (by first | (rw [l289]; omega) | (rw [l289]; done) | omega) (by first | (rw [l289]; omega) | (rw [l289]; done) | omega)
                  · skip
                    have c463 := wt_ncle h460
                    unfold wp_md_exchange_B112
                    refine wt_T_bi (wq_md_cell n hn z275.2.2.1 z287.2.1 z275.2.2.2 l279 (by omega) (by omega) (by omega) (by omega)) (fun r464 h465 => ?_)
                    obtain ⟨e466, pp467⟩ := h465
                    have bb468 := wt_bd r464.1
                    rw [e466]
                    unfold wp_md_exchange_B121
                    obtain ⟨j469, j469a, j469b⟩ := wt_addI z287.2.1 (1 : Int32)
                    refine hKK286 _ ⟨rfl, (wt_nn (B := wt_ga z287.2.2 111 (Int32.toNatClampNeg z275.2.2.1)) (by omega) (by first | (rw [l289]; omega) | (rw [l289]; done) | omega)), (show (r464.1.toInt = -1 ∨ (0 ≤ r464.1.toInt ∧ r464.1.toInt ≤ 337)) by omega)⟩ ?_
                    show ((wt_ga z275.2.2.2 111 (Int32.toNatClampNeg z275.2.2.1)).toInt - (z287.2.1 + (1 : Int32)).toInt + 0).toNat < ((wt_ga z287.2.2 111 (Int32.toNatClampNeg z275.2.2.1)).toInt - z287.2.1.toInt + 0).toNat
                    exact wt_mu (by first | (rw [l289]; omega) | (rw [l289]; done) | omega) (by first | (rw [l289]; omega) | (rw [l289]; done) | omega)
              · skip
                have c470 := wt_nceq h437
                rw [wt_lm1] at c470
                unfold wp_md_exchange_B121
                have bb471 := wt_bd z287.1
                obtain ⟨j472, j472a, j472b⟩ := wt_addI z287.2.1 (1 : Int32)
                refine hKK286 _ ⟨rfl, (wt_nn (B := wt_ga z287.2.2 111 (Int32.toNatClampNeg z275.2.2.1)) (by omega) (by first | (rw [l289]; omega) | (rw [l289]; done) | omega)), (show (z287.1.toInt = -1 ∨ (0 ≤ z287.1.toInt ∧ z287.1.toInt ≤ 337)) by omega)⟩ ?_
                show ((wt_ga z275.2.2.2 111 (Int32.toNatClampNeg z275.2.2.1)).toInt - (z287.2.1 + (1 : Int32)).toInt + 0).toNat < ((wt_ga z287.2.2 111 (Int32.toNatClampNeg z275.2.2.1)).toInt - z287.2.1.toInt + 0).toNat
                exact wt_mu (by first | (rw [l289]; omega) | (rw [l289]; done) | omega) (by first | (rw [l289]; omega) | (rw [l289]; done) | omega)
          · skip
            have bb473 := wt_tn z275.2.2.1
            have bb474 := wt_bd (wt_ga z275.2.2.2 111 (Int32.toNatClampNeg z275.2.2.1))
            have g475 := l280 (Int32.toNatClampNeg z275.2.2.1)
            have g476 : 0 ≤ (wt_ga z275.2.2.2 111 (Int32.toNatClampNeg z275.2.2.1)).toInt ∧ (wt_ga z275.2.2.2 111 (Int32.toNatClampNeg z275.2.2.1)).toInt ≤ 13 := wt_R_ga l279 1 rfl 111 (by decide) (by decide) (Int32.toNatClampNeg z275.2.2.1)
            have k477 := wt_lm1
            exact ⟨rfl, (show 0 ≤ ((0 : Int32)).toInt by omega), (show ((-1 : Int32).toInt = -1 ∨ (0 ≤ (-1 : Int32).toInt ∧ (-1 : Int32).toInt ≤ 337)) by omega)⟩
          · skip
            have bb478 := wt_tn z275.2.2.1
            have bb479 := wt_bd (wt_ga z275.2.2.2 111 (Int32.toNatClampNeg z275.2.2.1))
            have g480 := l280 (Int32.toNatClampNeg z275.2.2.1)
            have g481 : 0 ≤ (wt_ga z275.2.2.2 111 (Int32.toNatClampNeg z275.2.2.1)).toInt ∧ (wt_ga z275.2.2.2 111 (Int32.toNatClampNeg z275.2.2.1)).toInt ≤ 13 := wt_R_ga l279 1 rfl 111 (by decide) (by decide) (Int32.toNatClampNeg z275.2.2.1)
            show ((wt_ga z275.2.2.2 111 (Int32.toNatClampNeg z275.2.2.1)).toInt - (0 : Int32).toInt + 0).toNat < n
            omega
      · skip
        have k482 : (26 : Int32).toInt = 26 := by decide
        exact ⟨wt_fr.rf, (show 0 ≤ ((0 : Int32)).toInt by omega), ri266, mi268⟩
      · skip
        have k483 : (26 : Int32).toInt = 26 := by decide
        show ((26 : Int32).toInt - (0 : Int32).toInt + 0).toNat < n
        omega
    · skip
      have c484 := wt_nceq h261
      refine wt_T_some ?_
      exact ⟨(wt_fr.tr (wt_fr.tr wt_fr.rf fσ2 (fun i k h => by (try dsimp only at h); exact (by omega)) (fun i h => h.elim)) f254 (fun i k h => by (try dsimp only at h); exact (by omega)) (fun i h => h.elim)), ri255, mi257⟩
set_option maxRecDepth 100000 in
set_option maxHeartbeats 4000000 in
theorem wq_md_fault (n : Nat) (hn : 4294967297 < n) (σ : wt_St) (r0 : wt_RI σ) : wt_T (wp_md_fault n σ) (fun q => wt_fr (fun i k => (i = 108 ∧ k = 0)) (fun i => False) σ q.2 ∧ wt_RI q.2) := by
  unfold wp_md_fault
  obtain ⟨σ1, eσ1⟩ : ∃ z : wt_St, z = wt_sf σ 108 0 (0 : Int32) := ⟨_, rfl⟩
  rw [← eσ1]
  have fσ1 := wt_fr_sf eσ1
  have vσ1 := wt_ceq (wt_v_sf eσ1)
  have k2 : (0 : Int32).toInt = 0 := by decide
  have rσ1 := wt_RI_fno r0 eσ1 (Or.inr (by decide))
  refine wt_T_some ?_
  exact ⟨(wt_fr.tr wt_fr.rf fσ1 (fun i k h => by (try dsimp only at h); exact (by omega)) (fun i h => h.elim)), rσ1⟩
set_option maxRecDepth 100000 in
set_option maxHeartbeats 4000000 in
theorem wq_md_feed (n : Nat) (hn : 4294967297 < n) (x1 : Int32) (x2 : Int32) (x3 : Int32) (x4 : Int32) (x5 : Int32) (σ : wt_St) (r0 : wt_RI σ) : wt_T (wp_md_feed n x1 x2 x3 x4 x5 σ) (fun q => wt_fr (fun i k => (i = 108 ∧ k = 0) ∨ (i = 108 ∧ k = 1)) (fun i => i = 109) σ q.2 ∧ wt_RI q.2 ∧ (((wt_gf σ 108 1).toInt ≤ 480 → q.1.toInt = (wt_gf σ 108 1).toInt + 20 ∧ (wt_gf q.2 108 1).toInt = (wt_gf σ 108 1).toInt + 20) ∧ (480 < (wt_gf σ 108 1).toInt → q.1.toInt = -1 ∧ (wt_gf q.2 108 1).toInt = (wt_gf σ 108 1).toInt))) := by
  have bb1 := wt_bd x1
  have bb2 := wt_bd x2
  have bb3 := wt_bd x3
  have bb4 := wt_bd x4
  have bb5 := wt_bd x5
  unfold wp_md_feed
  obtain ⟨σ6, eσ6⟩ : ∃ z : wt_St, z = wt_sf σ 108 0 (0 : Int32) := ⟨_, rfl⟩
  rw [← eσ6]
  have fσ6 := wt_fr_sf eσ6
  have vσ6 := wt_ceq (wt_v_sf eσ6)
  have k7 : (0 : Int32).toInt = 0 := by decide
  have rσ6 := wt_RI_fno r0 eσ6 (Or.inr (by decide))
  have bb8 := wt_bd (wt_gf σ6 108 1)
  have g9 : 0 ≤ (wt_gf σ6 108 1).toInt ∧ (wt_gf σ6 108 1).toInt ≤ 500 := wt_R_gf rσ6 0 rfl
  have tt10 : (wt_gf σ6 108 1).toInt = (wt_gf σ 108 1).toInt := congrArg Int32.toInt (fσ6.1 108 1 (by (try dsimp only); omega))
  have bb11 := wt_bd (wt_gf σ 108 1)
  have g12 : 0 ≤ (wt_gf σ 108 1).toInt ∧ (wt_gf σ 108 1).toInt ≤ 500 := wt_R_gf r0 0 rfl
  have k13 : (20 : Int32).toInt = 20 := by decide
  obtain ⟨j14, j14a, j14b⟩ := wt_addI (wt_gf σ6 108 1) (20 : Int32)
  have k15 : (500 : Int32).toInt = 500 := by decide
  refine wt_T_if (fun h16 => ?_) (fun h16 => ?_)
  · skip
    have c17 := wt_cle h16
    refine wt_T_it (fun s : Int32 × wt_St => wt_fr (fun i k => (i = 108 ∧ k = 1)) (fun i => i = 109) σ6 s.2 ∧ 0 ≤ (s.1).toInt ∧ s.1.toInt ≤ 20 ∧ (wt_gf s.2 108 1).toInt = (wt_gf σ 108 1).toInt + s.1.toInt ∧ (wt_gf σ 108 1).toInt ≤ 480 ∧ wt_RI s.2) (fun s : Int32 × wt_St => ((20 : Int32).toInt - s.1.toInt + 0).toNat) (fun KK18 z19 I20 hKK18 => ?_) _ _ ?_ ?_
    · skip
      obtain ⟨l21, l22, l23, l24, l25, l26⟩ := I20
      unfold wp_md_feed_B23
      have bb27 := wt_bd (wt_gf z19.2 108 1)
      have g28 : 0 ≤ (wt_gf z19.2 108 1).toInt ∧ (wt_gf z19.2 108 1).toInt ≤ 500 := wt_R_gf l26 0 rfl
      have bb29 := wt_bd z19.1
      refine wt_T_if (fun h30 => ?_) (fun h30 => ?_)
      · skip
        have c31 := wt_cle h30
        refine wt_T_some ?_
        exact ⟨(wt_fr.tr (wt_fr.tr wt_fr.rf fσ6 (fun i k h => by (try dsimp only at h); exact Or.inl (by omega)) (fun i h => h.elim)) l21 (fun i k h => by (try dsimp only at h); exact Or.inr ((by omega))) (fun i h => by (try dsimp only at h); exact (by omega))), l26, (show (((wt_gf σ 108 1).toInt ≤ 480 → (wt_gf z19.2 108 1).toInt = (wt_gf σ 108 1).toInt + 20 ∧ (wt_gf z19.2 108 1).toInt = (wt_gf σ 108 1).toInt + 20) ∧ (480 < (wt_gf σ 108 1).toInt → (wt_gf z19.2 108 1).toInt = -1 ∧ (wt_gf z19.2 108 1).toInt = (wt_gf σ 108 1).toInt)) from by omega)⟩
      · skip
        have c32 := wt_ncle h30
        have k33 : (4 : Int32).toInt = 4 := by decide
        refine wt_T_if (fun h34 => ?_) (fun h34 => ?_)
        · skip
          have c35 := wt_cle h34
          have k36 : (8 : Int32).toInt = 8 := by decide
          refine wt_T_if (fun h37 => ?_) (fun h37 => ?_)
          · skip
            have c38 := wt_cle h37
            have k39 : (12 : Int32).toInt = 12 := by decide
            refine wt_T_if (fun h40 => ?_) (fun h40 => ?_)
            · skip
              have c41 := wt_cle h40
              have k42 : (16 : Int32).toInt = 16 := by decide
              refine wt_T_if (fun h43 => ?_) (fun h43 => ?_)
              · skip
                have c44 := wt_cle h43
                unfold wp_md_feed_B76
                refine wt_T_gd (wt_ix (by omega) (by omega)) ?_
                obtain ⟨σ45, eσ45⟩ : ∃ z : wt_St, z = wt_sa z19.2 109 (Int32.toNatClampNeg (wt_gf z19.2 108 1)) ((x5 >>> (((24 : Int32) - ((8 : Int32) * (wt_rem z19.1 (4 : Int32)))) &&& 31)) &&& (255 : Int32)) := ⟨_, rfl⟩
                rw [← eσ45]
                have fσ45 := wt_fr_sa eσ45
                have vσ45 := wt_ceq (wt_v_sa eσ45)
                have bb46 := wt_tn (wt_gf z19.2 108 1)
                have k47 : (24 : Int32).toInt = 24 := by decide
                have bb48 := wt_bd (wt_rem z19.1 (4 : Int32))
                obtain ⟨j49, j49a, j49b⟩ := wt_mulI (8 : Int32) (wt_rem z19.1 (4 : Int32))
                rw [show (8 : Int32).toInt = 8 from by decide] at j49a
                obtain ⟨j50, j50a, j50b⟩ := wt_subI (24 : Int32) ((8 : Int32) * (wt_rem z19.1 (4 : Int32)))
                have k51 : (31 : Int32).toInt = 31 := by decide
                have bb52 := wt_bd (((24 : Int32) - ((8 : Int32) * (wt_rem z19.1 (4 : Int32)))) &&& 31)
                have bb53 := wt_bd (x5 >>> (((24 : Int32) - ((8 : Int32) * (wt_rem z19.1 (4 : Int32)))) &&& 31))
                have k54 : (255 : Int32).toInt = 255 := by decide
                have bb55 := wt_bd ((x5 >>> (((24 : Int32) - ((8 : Int32) * (wt_rem z19.1 (4 : Int32)))) &&& 31)) &&& (255 : Int32))
                have rσ45 := wt_RI_no l26 eσ45 109 110 (by decide) (by decide) (by decide)
                obtain ⟨σ56, eσ56⟩ : ∃ z : wt_St, z = wt_sf σ45 108 1 ((wt_gf σ45 108 1) + (1 : Int32)) := ⟨_, rfl⟩
                rw [← eσ56]
                have fσ56 := wt_fr_sf eσ56
                have vσ56 := wt_ceq (wt_v_sf eσ56)
                have bb57 := wt_bd (wt_gf σ45 108 1)
                have g58 : 0 ≤ (wt_gf σ45 108 1).toInt ∧ (wt_gf σ45 108 1).toInt ≤ 500 := wt_R_gf rσ45 0 rfl
                have tt59 : (wt_gf σ45 108 1).toInt = (wt_gf z19.2 108 1).toInt := congrArg Int32.toInt (fσ45.1 108 1 (fun z => z))
                have k60 : (1 : Int32).toInt = 1 := by decide
                obtain ⟨j61, j61a, j61b⟩ := wt_addI (wt_gf σ45 108 1) (1 : Int32)
                have rσ56 := wt_RI_fin rσ45 eσ56 0 rfl rfl (show 0 ≤ ((wt_gf σ45 108 1) + (1 : Int32)).toInt by omega) (show ((wt_gf σ45 108 1) + (1 : Int32)).toInt ≤ 500 by omega)
                obtain ⟨j62, j62a, j62b⟩ := wt_addI z19.1 (1 : Int32)
                have bb63 := wt_bd (wt_gf σ56 108 1)
                have g64 : 0 ≤ (wt_gf σ56 108 1).toInt ∧ (wt_gf σ56 108 1).toInt ≤ 500 := wt_R_gf rσ56 0 rfl
                refine hKK18 _ ⟨(wt_fr.tr (wt_fr.tr (wt_fr.tr wt_fr.rf l21 (fun i k h => by (try dsimp only at h); exact (by omega)) (fun i h => by (try dsimp only at h); exact (by omega))) fσ45 (fun i k h => h.elim) (fun i h => by (try dsimp only at h); exact (by omega))) fσ56 (fun i k h => by (try dsimp only at h); exact (by omega)) (fun i h => h.elim)), (wt_nn (B := (20 : Int32)) (by omega) (by omega)), (show (z19.1 + (1 : Int32)).toInt ≤ 20 by omega), (show (wt_gf σ56 108 1).toInt = (wt_gf σ 108 1).toInt + (z19.1 + (1 : Int32)).toInt by omega), (show (wt_gf σ 108 1).toInt ≤ 480 by omega), rσ56⟩ ?_
                show ((20 : Int32).toInt - (z19.1 + (1 : Int32)).toInt + 0).toNat < ((20 : Int32).toInt - z19.1.toInt + 0).toNat
                exact wt_mu (by omega) (by omega)
              · skip
                have c65 := wt_ncle h43
                unfold wp_md_feed_B76
                refine wt_T_gd (wt_ix (by omega) (by omega)) ?_
                obtain ⟨σ66, eσ66⟩ : ∃ z : wt_St, z = wt_sa z19.2 109 (Int32.toNatClampNeg (wt_gf z19.2 108 1)) ((x4 >>> (((24 : Int32) - ((8 : Int32) * (wt_rem z19.1 (4 : Int32)))) &&& 31)) &&& (255 : Int32)) := ⟨_, rfl⟩
                rw [← eσ66]
                have fσ66 := wt_fr_sa eσ66
                have vσ66 := wt_ceq (wt_v_sa eσ66)
                have bb67 := wt_tn (wt_gf z19.2 108 1)
                have k68 : (24 : Int32).toInt = 24 := by decide
                have bb69 := wt_bd (wt_rem z19.1 (4 : Int32))
                obtain ⟨j70, j70a, j70b⟩ := wt_mulI (8 : Int32) (wt_rem z19.1 (4 : Int32))
                rw [show (8 : Int32).toInt = 8 from by decide] at j70a
                obtain ⟨j71, j71a, j71b⟩ := wt_subI (24 : Int32) ((8 : Int32) * (wt_rem z19.1 (4 : Int32)))
                have k72 : (31 : Int32).toInt = 31 := by decide
                have bb73 := wt_bd (((24 : Int32) - ((8 : Int32) * (wt_rem z19.1 (4 : Int32)))) &&& 31)
                have bb74 := wt_bd (x4 >>> (((24 : Int32) - ((8 : Int32) * (wt_rem z19.1 (4 : Int32)))) &&& 31))
                have k75 : (255 : Int32).toInt = 255 := by decide
                have bb76 := wt_bd ((x4 >>> (((24 : Int32) - ((8 : Int32) * (wt_rem z19.1 (4 : Int32)))) &&& 31)) &&& (255 : Int32))
                have rσ66 := wt_RI_no l26 eσ66 109 110 (by decide) (by decide) (by decide)
                obtain ⟨σ77, eσ77⟩ : ∃ z : wt_St, z = wt_sf σ66 108 1 ((wt_gf σ66 108 1) + (1 : Int32)) := ⟨_, rfl⟩
                rw [← eσ77]
                have fσ77 := wt_fr_sf eσ77
                have vσ77 := wt_ceq (wt_v_sf eσ77)
                have bb78 := wt_bd (wt_gf σ66 108 1)
                have g79 : 0 ≤ (wt_gf σ66 108 1).toInt ∧ (wt_gf σ66 108 1).toInt ≤ 500 := wt_R_gf rσ66 0 rfl
                have tt80 : (wt_gf σ66 108 1).toInt = (wt_gf z19.2 108 1).toInt := congrArg Int32.toInt (fσ66.1 108 1 (fun z => z))
                have k81 : (1 : Int32).toInt = 1 := by decide
                obtain ⟨j82, j82a, j82b⟩ := wt_addI (wt_gf σ66 108 1) (1 : Int32)
                have rσ77 := wt_RI_fin rσ66 eσ77 0 rfl rfl (show 0 ≤ ((wt_gf σ66 108 1) + (1 : Int32)).toInt by omega) (show ((wt_gf σ66 108 1) + (1 : Int32)).toInt ≤ 500 by omega)
                obtain ⟨j83, j83a, j83b⟩ := wt_addI z19.1 (1 : Int32)
                have bb84 := wt_bd (wt_gf σ77 108 1)
                have g85 : 0 ≤ (wt_gf σ77 108 1).toInt ∧ (wt_gf σ77 108 1).toInt ≤ 500 := wt_R_gf rσ77 0 rfl
                refine hKK18 _ ⟨(wt_fr.tr (wt_fr.tr (wt_fr.tr wt_fr.rf l21 (fun i k h => by (try dsimp only at h); exact (by omega)) (fun i h => by (try dsimp only at h); exact (by omega))) fσ66 (fun i k h => h.elim) (fun i h => by (try dsimp only at h); exact (by omega))) fσ77 (fun i k h => by (try dsimp only at h); exact (by omega)) (fun i h => h.elim)), (wt_nn (B := (20 : Int32)) (by omega) (by omega)), (show (z19.1 + (1 : Int32)).toInt ≤ 20 by omega), (show (wt_gf σ77 108 1).toInt = (wt_gf σ 108 1).toInt + (z19.1 + (1 : Int32)).toInt by omega), (show (wt_gf σ 108 1).toInt ≤ 480 by omega), rσ77⟩ ?_
                show ((20 : Int32).toInt - (z19.1 + (1 : Int32)).toInt + 0).toNat < ((20 : Int32).toInt - z19.1.toInt + 0).toNat
                exact wt_mu (by omega) (by omega)
            · skip
              have c86 := wt_ncle h40
              unfold wp_md_feed_B76
              refine wt_T_gd (wt_ix (by omega) (by omega)) ?_
              obtain ⟨σ87, eσ87⟩ : ∃ z : wt_St, z = wt_sa z19.2 109 (Int32.toNatClampNeg (wt_gf z19.2 108 1)) ((x3 >>> (((24 : Int32) - ((8 : Int32) * (wt_rem z19.1 (4 : Int32)))) &&& 31)) &&& (255 : Int32)) := ⟨_, rfl⟩
              rw [← eσ87]
              have fσ87 := wt_fr_sa eσ87
              have vσ87 := wt_ceq (wt_v_sa eσ87)
              have bb88 := wt_tn (wt_gf z19.2 108 1)
              have k89 : (24 : Int32).toInt = 24 := by decide
              have bb90 := wt_bd (wt_rem z19.1 (4 : Int32))
              obtain ⟨j91, j91a, j91b⟩ := wt_mulI (8 : Int32) (wt_rem z19.1 (4 : Int32))
              rw [show (8 : Int32).toInt = 8 from by decide] at j91a
              obtain ⟨j92, j92a, j92b⟩ := wt_subI (24 : Int32) ((8 : Int32) * (wt_rem z19.1 (4 : Int32)))
              have k93 : (31 : Int32).toInt = 31 := by decide
              have bb94 := wt_bd (((24 : Int32) - ((8 : Int32) * (wt_rem z19.1 (4 : Int32)))) &&& 31)
              have bb95 := wt_bd (x3 >>> (((24 : Int32) - ((8 : Int32) * (wt_rem z19.1 (4 : Int32)))) &&& 31))
              have k96 : (255 : Int32).toInt = 255 := by decide
              have bb97 := wt_bd ((x3 >>> (((24 : Int32) - ((8 : Int32) * (wt_rem z19.1 (4 : Int32)))) &&& 31)) &&& (255 : Int32))
              have rσ87 := wt_RI_no l26 eσ87 109 110 (by decide) (by decide) (by decide)
              obtain ⟨σ98, eσ98⟩ : ∃ z : wt_St, z = wt_sf σ87 108 1 ((wt_gf σ87 108 1) + (1 : Int32)) := ⟨_, rfl⟩
              rw [← eσ98]
              have fσ98 := wt_fr_sf eσ98
              have vσ98 := wt_ceq (wt_v_sf eσ98)
              have bb99 := wt_bd (wt_gf σ87 108 1)
              have g100 : 0 ≤ (wt_gf σ87 108 1).toInt ∧ (wt_gf σ87 108 1).toInt ≤ 500 := wt_R_gf rσ87 0 rfl
              have tt101 : (wt_gf σ87 108 1).toInt = (wt_gf z19.2 108 1).toInt := congrArg Int32.toInt (fσ87.1 108 1 (fun z => z))
              have k102 : (1 : Int32).toInt = 1 := by decide
              obtain ⟨j103, j103a, j103b⟩ := wt_addI (wt_gf σ87 108 1) (1 : Int32)
              have rσ98 := wt_RI_fin rσ87 eσ98 0 rfl rfl (show 0 ≤ ((wt_gf σ87 108 1) + (1 : Int32)).toInt by omega) (show ((wt_gf σ87 108 1) + (1 : Int32)).toInt ≤ 500 by omega)
              obtain ⟨j104, j104a, j104b⟩ := wt_addI z19.1 (1 : Int32)
              have bb105 := wt_bd (wt_gf σ98 108 1)
              have g106 : 0 ≤ (wt_gf σ98 108 1).toInt ∧ (wt_gf σ98 108 1).toInt ≤ 500 := wt_R_gf rσ98 0 rfl
              refine hKK18 _ ⟨(wt_fr.tr (wt_fr.tr (wt_fr.tr wt_fr.rf l21 (fun i k h => by (try dsimp only at h); exact (by omega)) (fun i h => by (try dsimp only at h); exact (by omega))) fσ87 (fun i k h => h.elim) (fun i h => by (try dsimp only at h); exact (by omega))) fσ98 (fun i k h => by (try dsimp only at h); exact (by omega)) (fun i h => h.elim)), (wt_nn (B := (20 : Int32)) (by omega) (by omega)), (show (z19.1 + (1 : Int32)).toInt ≤ 20 by omega), (show (wt_gf σ98 108 1).toInt = (wt_gf σ 108 1).toInt + (z19.1 + (1 : Int32)).toInt by omega), (show (wt_gf σ 108 1).toInt ≤ 480 by omega), rσ98⟩ ?_
              show ((20 : Int32).toInt - (z19.1 + (1 : Int32)).toInt + 0).toNat < ((20 : Int32).toInt - z19.1.toInt + 0).toNat
              exact wt_mu (by omega) (by omega)
          · skip
            have c107 := wt_ncle h37
            unfold wp_md_feed_B76
            refine wt_T_gd (wt_ix (by omega) (by omega)) ?_
            obtain ⟨σ108, eσ108⟩ : ∃ z : wt_St, z = wt_sa z19.2 109 (Int32.toNatClampNeg (wt_gf z19.2 108 1)) ((x2 >>> (((24 : Int32) - ((8 : Int32) * (wt_rem z19.1 (4 : Int32)))) &&& 31)) &&& (255 : Int32)) := ⟨_, rfl⟩
            rw [← eσ108]
            have fσ108 := wt_fr_sa eσ108
            have vσ108 := wt_ceq (wt_v_sa eσ108)
            have bb109 := wt_tn (wt_gf z19.2 108 1)
            have k110 : (24 : Int32).toInt = 24 := by decide
            have bb111 := wt_bd (wt_rem z19.1 (4 : Int32))
            obtain ⟨j112, j112a, j112b⟩ := wt_mulI (8 : Int32) (wt_rem z19.1 (4 : Int32))
            rw [show (8 : Int32).toInt = 8 from by decide] at j112a
            obtain ⟨j113, j113a, j113b⟩ := wt_subI (24 : Int32) ((8 : Int32) * (wt_rem z19.1 (4 : Int32)))
            have k114 : (31 : Int32).toInt = 31 := by decide
            have bb115 := wt_bd (((24 : Int32) - ((8 : Int32) * (wt_rem z19.1 (4 : Int32)))) &&& 31)
            have bb116 := wt_bd (x2 >>> (((24 : Int32) - ((8 : Int32) * (wt_rem z19.1 (4 : Int32)))) &&& 31))
            have k117 : (255 : Int32).toInt = 255 := by decide
            have bb118 := wt_bd ((x2 >>> (((24 : Int32) - ((8 : Int32) * (wt_rem z19.1 (4 : Int32)))) &&& 31)) &&& (255 : Int32))
            have rσ108 := wt_RI_no l26 eσ108 109 110 (by decide) (by decide) (by decide)
            obtain ⟨σ119, eσ119⟩ : ∃ z : wt_St, z = wt_sf σ108 108 1 ((wt_gf σ108 108 1) + (1 : Int32)) := ⟨_, rfl⟩
            rw [← eσ119]
            have fσ119 := wt_fr_sf eσ119
            have vσ119 := wt_ceq (wt_v_sf eσ119)
            have bb120 := wt_bd (wt_gf σ108 108 1)
            have g121 : 0 ≤ (wt_gf σ108 108 1).toInt ∧ (wt_gf σ108 108 1).toInt ≤ 500 := wt_R_gf rσ108 0 rfl
            have tt122 : (wt_gf σ108 108 1).toInt = (wt_gf z19.2 108 1).toInt := congrArg Int32.toInt (fσ108.1 108 1 (fun z => z))
            have k123 : (1 : Int32).toInt = 1 := by decide
            obtain ⟨j124, j124a, j124b⟩ := wt_addI (wt_gf σ108 108 1) (1 : Int32)
            have rσ119 := wt_RI_fin rσ108 eσ119 0 rfl rfl (show 0 ≤ ((wt_gf σ108 108 1) + (1 : Int32)).toInt by omega) (show ((wt_gf σ108 108 1) + (1 : Int32)).toInt ≤ 500 by omega)
            obtain ⟨j125, j125a, j125b⟩ := wt_addI z19.1 (1 : Int32)
            have bb126 := wt_bd (wt_gf σ119 108 1)
            have g127 : 0 ≤ (wt_gf σ119 108 1).toInt ∧ (wt_gf σ119 108 1).toInt ≤ 500 := wt_R_gf rσ119 0 rfl
            refine hKK18 _ ⟨(wt_fr.tr (wt_fr.tr (wt_fr.tr wt_fr.rf l21 (fun i k h => by (try dsimp only at h); exact (by omega)) (fun i h => by (try dsimp only at h); exact (by omega))) fσ108 (fun i k h => h.elim) (fun i h => by (try dsimp only at h); exact (by omega))) fσ119 (fun i k h => by (try dsimp only at h); exact (by omega)) (fun i h => h.elim)), (wt_nn (B := (20 : Int32)) (by omega) (by omega)), (show (z19.1 + (1 : Int32)).toInt ≤ 20 by omega), (show (wt_gf σ119 108 1).toInt = (wt_gf σ 108 1).toInt + (z19.1 + (1 : Int32)).toInt by omega), (show (wt_gf σ 108 1).toInt ≤ 480 by omega), rσ119⟩ ?_
            show ((20 : Int32).toInt - (z19.1 + (1 : Int32)).toInt + 0).toNat < ((20 : Int32).toInt - z19.1.toInt + 0).toNat
            exact wt_mu (by omega) (by omega)
        · skip
          have c128 := wt_ncle h34
          unfold wp_md_feed_B76
          refine wt_T_gd (wt_ix (by omega) (by omega)) ?_
          obtain ⟨σ129, eσ129⟩ : ∃ z : wt_St, z = wt_sa z19.2 109 (Int32.toNatClampNeg (wt_gf z19.2 108 1)) ((x1 >>> (((24 : Int32) - ((8 : Int32) * (wt_rem z19.1 (4 : Int32)))) &&& 31)) &&& (255 : Int32)) := ⟨_, rfl⟩
          rw [← eσ129]
          have fσ129 := wt_fr_sa eσ129
          have vσ129 := wt_ceq (wt_v_sa eσ129)
          have bb130 := wt_tn (wt_gf z19.2 108 1)
          have k131 : (24 : Int32).toInt = 24 := by decide
          have k132 : (8 : Int32).toInt = 8 := by decide
          have bb133 := wt_bd (wt_rem z19.1 (4 : Int32))
          obtain ⟨j134, j134a, j134b⟩ := wt_mulI (8 : Int32) (wt_rem z19.1 (4 : Int32))
          rw [show (8 : Int32).toInt = 8 from by decide] at j134a
          obtain ⟨j135, j135a, j135b⟩ := wt_subI (24 : Int32) ((8 : Int32) * (wt_rem z19.1 (4 : Int32)))
          have k136 : (31 : Int32).toInt = 31 := by decide
          have bb137 := wt_bd (((24 : Int32) - ((8 : Int32) * (wt_rem z19.1 (4 : Int32)))) &&& 31)
          have bb138 := wt_bd (x1 >>> (((24 : Int32) - ((8 : Int32) * (wt_rem z19.1 (4 : Int32)))) &&& 31))
          have k139 : (255 : Int32).toInt = 255 := by decide
          have bb140 := wt_bd ((x1 >>> (((24 : Int32) - ((8 : Int32) * (wt_rem z19.1 (4 : Int32)))) &&& 31)) &&& (255 : Int32))
          have rσ129 := wt_RI_no l26 eσ129 109 110 (by decide) (by decide) (by decide)
          obtain ⟨σ141, eσ141⟩ : ∃ z : wt_St, z = wt_sf σ129 108 1 ((wt_gf σ129 108 1) + (1 : Int32)) := ⟨_, rfl⟩
          rw [← eσ141]
          have fσ141 := wt_fr_sf eσ141
          have vσ141 := wt_ceq (wt_v_sf eσ141)
          have bb142 := wt_bd (wt_gf σ129 108 1)
          have g143 : 0 ≤ (wt_gf σ129 108 1).toInt ∧ (wt_gf σ129 108 1).toInt ≤ 500 := wt_R_gf rσ129 0 rfl
          have tt144 : (wt_gf σ129 108 1).toInt = (wt_gf z19.2 108 1).toInt := congrArg Int32.toInt (fσ129.1 108 1 (fun z => z))
          have k145 : (1 : Int32).toInt = 1 := by decide
          obtain ⟨j146, j146a, j146b⟩ := wt_addI (wt_gf σ129 108 1) (1 : Int32)
          have rσ141 := wt_RI_fin rσ129 eσ141 0 rfl rfl (show 0 ≤ ((wt_gf σ129 108 1) + (1 : Int32)).toInt by omega) (show ((wt_gf σ129 108 1) + (1 : Int32)).toInt ≤ 500 by omega)
          obtain ⟨j147, j147a, j147b⟩ := wt_addI z19.1 (1 : Int32)
          have bb148 := wt_bd (wt_gf σ141 108 1)
          have g149 : 0 ≤ (wt_gf σ141 108 1).toInt ∧ (wt_gf σ141 108 1).toInt ≤ 500 := wt_R_gf rσ141 0 rfl
          refine hKK18 _ ⟨(wt_fr.tr (wt_fr.tr (wt_fr.tr wt_fr.rf l21 (fun i k h => by (try dsimp only at h); exact (by omega)) (fun i h => by (try dsimp only at h); exact (by omega))) fσ129 (fun i k h => h.elim) (fun i h => by (try dsimp only at h); exact (by omega))) fσ141 (fun i k h => by (try dsimp only at h); exact (by omega)) (fun i h => h.elim)), (wt_nn (B := (20 : Int32)) (by omega) (by omega)), (show (z19.1 + (1 : Int32)).toInt ≤ 20 by omega), (show (wt_gf σ141 108 1).toInt = (wt_gf σ 108 1).toInt + (z19.1 + (1 : Int32)).toInt by omega), (show (wt_gf σ 108 1).toInt ≤ 480 by omega), rσ141⟩ ?_
          show ((20 : Int32).toInt - (z19.1 + (1 : Int32)).toInt + 0).toNat < ((20 : Int32).toInt - z19.1.toInt + 0).toNat
          exact wt_mu (by omega) (by omega)
    · skip
      exact ⟨wt_fr.rf, (show 0 ≤ ((0 : Int32)).toInt by omega), (show (0 : Int32).toInt ≤ 20 by omega), (show (wt_gf σ6 108 1).toInt = (wt_gf σ 108 1).toInt + (0 : Int32).toInt by omega), (show (wt_gf σ 108 1).toInt ≤ 480 by omega), rσ6⟩
    · skip
      show ((20 : Int32).toInt - (0 : Int32).toInt + 0).toNat < n
      omega
  · skip
    have c150 := wt_ncle h16
    refine wt_T_some ?_
    have k151 := wt_lm1
    exact ⟨(wt_fr.tr wt_fr.rf fσ6 (fun i k h => by (try dsimp only at h); exact Or.inl (by omega)) (fun i h => h.elim)), rσ6, (show (((wt_gf σ 108 1).toInt ≤ 480 → (-1 : Int32).toInt = (wt_gf σ 108 1).toInt + 20 ∧ (wt_gf σ6 108 1).toInt = (wt_gf σ 108 1).toInt + 20) ∧ (480 < (wt_gf σ 108 1).toInt → (-1 : Int32).toInt = -1 ∧ (wt_gf σ6 108 1).toInt = (wt_gf σ 108 1).toInt)) from by omega)⟩
set_option maxRecDepth 100000 in
set_option maxHeartbeats 4000000 in
theorem wq_md_isOf (n : Nat) (hn : 4294967297 < n) (x1 : Int32) (x2 : Int32) (x3 : Int32) (σ : wt_St) (r0 : wt_RI σ) (p0 : 0 ≤ x1.toInt) (p1 : x1.toInt ≤ 60) (p2 : 0 ≤ x2.toInt) (p3 : x2.toInt ≤ 7) (p4 : 0 ≤ x3.toInt) (p5 : x3.toInt ≤ 11) : wt_T (wp_md_isOf n x1 x2 x3 σ) (fun q => q.2 = σ) := by
  have bb1 := wt_bd x1
  have bb2 := wt_bd x2
  have bb3 := wt_bd x3
  unfold wp_md_isOf
  have k0 : (0 : Int32).toInt = 0 := by decide
  refine wt_T_gd (wt_ix (by omega) (by omega)) ?_
  refine wt_T_gd (wt_ix (by omega) (by omega)) ?_
  refine wt_T_gd (wt_ix (by omega) (by omega)) ?_
  have bb4 := wt_tn x2
  have bb5 := wt_tn x3
  have bb6 := wt_bd (wt_ga σ (255 + (Int32.toNatClampNeg x2)) (Int32.toNatClampNeg x3))
  have g7 : 0 ≤ (wt_ga σ (255 + (Int32.toNatClampNeg x2)) (Int32.toNatClampNeg x3)).toInt ∧ (wt_ga σ (255 + (Int32.toNatClampNeg x2)) (Int32.toNatClampNeg x3)).toInt ≤ 59 := wt_R_ga r0 10 rfl (255 + (Int32.toNatClampNeg x2)) (show 255 ≤ 255 + (Int32.toNatClampNeg x2) by omega) (show 255 + (Int32.toNatClampNeg x2) < 263 by omega) (Int32.toNatClampNeg x3)
  refine wt_T_gd (wt_ix (by omega) (by omega)) ?_
  have bb8 := wt_tn x1
  have bb9 := wt_bd (wt_ga σ 130 (Int32.toNatClampNeg x1))
  have bb10 := wt_tn (wt_ga σ (255 + (Int32.toNatClampNeg x2)) (Int32.toNatClampNeg x3))
  have bb11 := wt_bd (wt_ga σ 130 (Int32.toNatClampNeg (wt_ga σ (255 + (Int32.toNatClampNeg x2)) (Int32.toNatClampNeg x3))))
  refine wt_T_if (fun h12 => ?_) (fun h12 => ?_)
  · skip
    have c13 := wt_ceq h12
    refine wt_T_some ?_
    exact rfl
  · skip
    have c14 := wt_nceq h12
    refine wt_T_some ?_
    exact rfl
set_option maxRecDepth 100000 in
set_option maxHeartbeats 4000000 in
theorem wq_md_mayFollow (n : Nat) (hn : 4294967297 < n) (x1 : Int32) (x2 : Int32) (σ : wt_St) (r0 : wt_RI σ) (p0 : 0 ≤ x1.toInt) (p1 : x1.toInt ≤ 59) (p2 : 0 ≤ x2.toInt) (p3 : x2.toInt ≤ 59) : wt_T (wp_md_mayFollow n x1 x2 σ) (fun q => q.2 = σ) := by
  have bb1 := wt_bd x1
  have bb2 := wt_bd x2
  unfold wp_md_mayFollow
  have k0 : (0 : Int32).toInt = 0 := by decide
  refine wt_T_gd (wt_ix (by omega) (by omega)) ?_
  have bb3 := wt_tn x1
  have bb4 := wt_bd (wt_ga σ 128 (Int32.toNatClampNeg x1))
  have g5 : 0 ≤ (wt_ga σ 128 (Int32.toNatClampNeg x1)).toInt ∧ (wt_ga σ 128 (Int32.toNatClampNeg x1)).toInt ≤ 3 := wt_R_ga r0 6 rfl 128 (by decide) (by decide) (Int32.toNatClampNeg x1)
  refine wt_T_gd (wt_ix (by omega) (by omega)) ?_
  refine wt_T_gd (wt_ix (by omega) (by omega)) ?_
  have bb6 := wt_tn (wt_ga σ 128 (Int32.toNatClampNeg x1))
  have bb7 := wt_bd (wt_ga σ 119 (Int32.toNatClampNeg (wt_ga σ 128 (Int32.toNatClampNeg x1))))
  have bb8 := wt_tn x2
  have bb9 := wt_bd (wt_ga σ 128 (Int32.toNatClampNeg x2))
  have g10 : 0 ≤ (wt_ga σ 128 (Int32.toNatClampNeg x2)).toInt ∧ (wt_ga σ 128 (Int32.toNatClampNeg x2)).toInt ≤ 3 := wt_R_ga r0 6 rfl 128 (by decide) (by decide) (Int32.toNatClampNeg x2)
  have k11 : (31 : Int32).toInt = 31 := by decide
  have bb12 := wt_bd ((wt_ga σ 128 (Int32.toNatClampNeg x2)) &&& 31)
  have bb13 := wt_bd ((wt_ga σ 119 (Int32.toNatClampNeg (wt_ga σ 128 (Int32.toNatClampNeg x1)))) >>> ((wt_ga σ 128 (Int32.toNatClampNeg x2)) &&& 31))
  have k14 : (1 : Int32).toInt = 1 := by decide
  have bb15 := wt_bd (((wt_ga σ 119 (Int32.toNatClampNeg (wt_ga σ 128 (Int32.toNatClampNeg x1)))) >>> ((wt_ga σ 128 (Int32.toNatClampNeg x2)) &&& 31)) &&& (1 : Int32))
  refine wt_T_if (fun h16 => ?_) (fun h16 => ?_)
  · skip
    have c17 := wt_ceq h16
    refine wt_T_some ?_
    exact rfl
  · skip
    have c18 := wt_nceq h16
    refine wt_T_some ?_
    exact rfl
set_option maxRecDepth 100000 in
set_option maxHeartbeats 4000000 in
theorem wq_md_priceOf (n : Nat) (hn : 4294967297 < n) (x1 : Int32) (σ : wt_St) (r0 : wt_RI σ) (p0 : 0 ≤ x1.toInt) (p1 : x1.toInt ≤ 59) : wt_T (wp_md_priceOf n x1 σ) (fun q => q.2 = σ) := by
  have bb1 := wt_bd x1
  unfold wp_md_priceOf
  have k7 : (0 : Int32).toInt = 0 := by decide
  refine wt_T_it (fun s : Int32 × Int32 × wt_St => s.2.2 = σ ∧ 0 ≤ (s.2.1).toInt) (fun s : Int32 × Int32 × wt_St => ((wt_ga s.2.2 126 (Int32.toNatClampNeg x1)).toInt - s.2.1.toInt + 0).toNat) (fun KK2 z3 I4 hKK2 => ?_) _ _ ?_ ?_
  · skip
    obtain ⟨l5, l6⟩ := I4
    unfold wp_md_priceOf_B4
    rw [l5]
    have bb8 := wt_tn x1
    have bb9 := wt_bd (wt_ga σ 126 (Int32.toNatClampNeg x1))
    have g10 : 0 ≤ (wt_ga σ 126 (Int32.toNatClampNeg x1)).toInt ∧ (wt_ga σ 126 (Int32.toNatClampNeg x1)).toInt ≤ 9 := wt_R_ga r0 5 rfl 126 (by decide) (by decide) (Int32.toNatClampNeg x1)
    have bb11 := wt_bd z3.2.1
    refine wt_T_gd (wt_ix (by omega) (by omega)) ?_
    refine wt_T_if (fun h12 => ?_) (fun h12 => ?_)
    · skip
      have c13 := wt_cle h12
      refine wt_T_some ?_
      exact rfl
    · skip
      have c14 := wt_ncle h12
      refine wt_T_gd (wt_ix (by omega) (by omega)) ?_
      refine wt_T_gd (wt_ix (by omega) (by omega)) ?_
      have bb15 := wt_tn z3.2.1
      have bb16 := wt_bd (wt_ga σ (193 + (Int32.toNatClampNeg x1)) (Int32.toNatClampNeg z3.2.1))
      have g17 : 0 ≤ (wt_ga σ (193 + (Int32.toNatClampNeg x1)) (Int32.toNatClampNeg z3.2.1)).toInt ∧ (wt_ga σ (193 + (Int32.toNatClampNeg x1)) (Int32.toNatClampNeg z3.2.1)).toInt ≤ 25 := wt_R_ga r0 8 rfl (193 + (Int32.toNatClampNeg x1)) (show 193 ≤ 193 + (Int32.toNatClampNeg x1) by omega) (show 193 + (Int32.toNatClampNeg x1) < 253 by omega) (Int32.toNatClampNeg z3.2.1)
      refine wt_T_gd (wt_ix (by omega) (by omega)) ?_
      have bb18 := wt_bd z3.1
      have bb19 := wt_tn (wt_ga σ (193 + (Int32.toNatClampNeg x1)) (Int32.toNatClampNeg z3.2.1))
      have bb20 := wt_bd (wt_ga σ 115 (Int32.toNatClampNeg (wt_ga σ (193 + (Int32.toNatClampNeg x1)) (Int32.toNatClampNeg z3.2.1))))
      obtain ⟨j21, j21a, j21b⟩ := wt_addI z3.1 (wt_ga σ 115 (Int32.toNatClampNeg (wt_ga σ (193 + (Int32.toNatClampNeg x1)) (Int32.toNatClampNeg z3.2.1))))
      refine hKK2 _ ⟨rfl, (wt_nn (B := wt_ga z3.2.2 126 (Int32.toNatClampNeg x1)) (by omega) (by first | (rw [l5]; omega) | (rw [l5]; done) | omega))⟩ ?_
      show ((wt_ga σ 126 (Int32.toNatClampNeg x1)).toInt - (z3.2.1 + (1 : Int32)).toInt + 0).toNat < ((wt_ga z3.2.2 126 (Int32.toNatClampNeg x1)).toInt - z3.2.1.toInt + 0).toNat
      exact wt_mu (by first | (rw [l5]; omega) | (rw [l5]; done) | omega) (by first | (rw [l5]; omega) | (rw [l5]; done) | omega)
  · skip
    have bb22 := wt_tn x1
    have bb23 := wt_bd (wt_ga σ 126 (Int32.toNatClampNeg x1))
    have g24 : 0 ≤ (wt_ga σ 126 (Int32.toNatClampNeg x1)).toInt ∧ (wt_ga σ 126 (Int32.toNatClampNeg x1)).toInt ≤ 9 := wt_R_ga r0 5 rfl 126 (by decide) (by decide) (Int32.toNatClampNeg x1)
    exact ⟨rfl, (show 0 ≤ ((0 : Int32)).toInt by omega)⟩
  · skip
    have bb25 := wt_tn x1
    have bb26 := wt_bd (wt_ga σ 126 (Int32.toNatClampNeg x1))
    have g27 : 0 ≤ (wt_ga σ 126 (Int32.toNatClampNeg x1)).toInt ∧ (wt_ga σ 126 (Int32.toNatClampNeg x1)).toInt ≤ 9 := wt_R_ga r0 5 rfl 126 (by decide) (by decide) (Int32.toNatClampNeg x1)
    show ((wt_ga σ 126 (Int32.toNatClampNeg x1)).toInt - (0 : Int32).toInt + 0).toNat < n
    omega
set_option maxRecDepth 100000 in
set_option maxHeartbeats 4000000 in
theorem wq_md_tries_b (n : Nat) (hn : 4294967297 < n) (R : Int32 × Int32 × Int32 × Int32 × wt_St → Option (wt_St)) (x1 : Int32) (x2 : Int32) (x3 : Int32) (x4 : Int32) (σ : wt_St) (r0 : wt_RI σ) (p0 : 0 ≤ x1.toInt) (p1 : x1.toInt ≤ 7) (p2 : 0 ≤ x2.toInt) (p3 : x2.toInt ≤ (wt_ga σ 253 (Int32.toNatClampNeg x1)).toInt) (hR : ∀ z : Int32 × Int32 × Int32 × Int32 × wt_St, wt_RI z.2.2.2.2 → z.1 = x1 → 0 ≤ z.2.1.toInt → z.2.1.toInt ≤ (wt_ga z.2.2.2.2 253 (Int32.toNatClampNeg x1)).toInt → (12 - z.2.1.toInt).toNat < (12 - x2.toInt).toNat → wt_T (R z) (fun q => wt_fr (fun i k => (i = 108 ∧ k = 60)) (fun i => i = 287 ∨ i = 318 ∨ i = 319) z.2.2.2.2 q ∧ wt_RI q)) : wt_T (wp_md_tries_b n R x1 x2 x3 x4 σ) (fun q => wt_fr (fun i k => (i = 108 ∧ k = 60)) (fun i => i = 287 ∨ i = 318 ∨ i = 319) σ q ∧ wt_RI q) := by
  have bb1 := wt_bd x1
  have bb2 := wt_bd x2
  have bb3 := wt_bd x3
  have bb4 := wt_bd x4
  have bb5 := wt_tn x1
  have bb6 := wt_bd (wt_ga σ 253 (Int32.toNatClampNeg x1))
  have g7 : 0 ≤ (wt_ga σ 253 (Int32.toNatClampNeg x1)).toInt ∧ (wt_ga σ 253 (Int32.toNatClampNeg x1)).toInt ≤ 12 := wt_R_ga r0 9 rfl 253 (by decide) (by decide) (Int32.toNatClampNeg x1)
  unfold wp_md_tries_b
  have bb8 := wt_bd (wt_gf σ 108 60)
  refine wt_T_if (fun h9 => ?_) (fun h9 => ?_)
  · skip
    have c10 := wt_ceq h9
    rw [wt_lm1] at c10
    unfold wp_md_tries_B18
    have k0 : (0 : Int32).toInt = 0 := by decide
    refine wt_T_gd (wt_ix (by omega) (by omega)) ?_
    refine wt_T_if (fun h11 => ?_) (fun h11 => ?_)
    · skip
      have c12 := wt_ceq h11
      refine wt_T_bi (wq_md_needsNone n hn σ r0) (fun r13 h14 => ?_)
      obtain ⟨f15, ri16⟩ := h14
      refine wt_T_it (fun s : Int32 × wt_St => wt_fr (fun i k => False) (fun i => i = 287) r13 s.2 ∧ 0 ≤ (s.1).toInt ∧ wt_RI s.2) (fun s : Int32 × wt_St => (x2.toInt - s.1.toInt + 0).toNat) (fun KK17 z18 I19 hKK17 => ?_) _ _ ?_ ?_
      · skip
        obtain ⟨l20, l21, l22⟩ := I19
        unfold wp_md_tries_B35
        have bb23 := wt_bd z18.1
        refine wt_T_if (fun h24 => ?_) (fun h24 => ?_)
        · skip
          have c25 := wt_cle h24
          refine wt_T_bi (wq_md_lacking n hn x3 z18.2 l22) (fun r26 h27 => ?_)
          obtain ⟨e28, pp29⟩ := h27
          have bb30 := wt_bd r26.1
          rw [e28]
          refine wt_T_if (fun h31 => ?_) (fun h31 => ?_)
          · skip
            have c32 := wt_ceq h31
            rw [wt_lm1] at c32
            obtain ⟨σ33, eσ33⟩ : ∃ z : wt_St, z = wt_sf z18.2 108 60 x4 := ⟨_, rfl⟩
            rw [← eσ33]
            have fσ33 := wt_fr_sf eσ33
            have vσ33 := wt_ceq (wt_v_sf eσ33)
            have rσ33 := wt_RI_fno l22 eσ33 (Or.inr (by decide))
            refine wt_T_it (fun s : Int32 × wt_St => wt_fr (fun i k => False) (fun i => i = 318) σ33 s.2 ∧ 0 ≤ (s.1).toInt ∧ wt_RI s.2) (fun s : Int32 × wt_St => (x2.toInt - s.1.toInt + 0).toNat) (fun KK34 z35 I36 hKK34 => ?_) _ _ ?_ ?_
            · skip
              obtain ⟨l37, l38, l39⟩ := I36
              unfold wp_md_tries_B77
              have bb40 := wt_bd z35.1
              refine wt_T_if (fun h41 => ?_) (fun h41 => ?_)
              · skip
                have c42 := wt_cle h41
                refine wt_T_some ?_
                exact ⟨(wt_fr.tr (wt_fr.tr (wt_fr.tr (wt_fr.tr wt_fr.rf f15 (fun i k h => h.elim) (fun i h => by (try dsimp only at h); exact Or.inl (by omega))) l20 (fun i k h => h.elim) (fun i h => by (try dsimp only at h); exact Or.inl (by omega))) fσ33 (fun i k h => by (try dsimp only at h); exact (by omega)) (fun i h => h.elim)) l37 (fun i k h => h.elim) (fun i h => by (try dsimp only at h); exact Or.inr (Or.inl (by omega)))), l39⟩
              · skip
                have c43 := wt_ncle h41
                refine wt_T_gd (wt_ix (by omega) (by omega)) ?_
                refine wt_T_gd (wt_ix (by omega) (by omega)) ?_
                obtain ⟨σ44, eσ44⟩ : ∃ z : wt_St, z = wt_sa z35.2 318 (Int32.toNatClampNeg z35.1) (wt_ga z35.2 319 (Int32.toNatClampNeg z35.1)) := ⟨_, rfl⟩
                rw [← eσ44]
                have fσ44 := wt_fr_sa eσ44
                have vσ44 := wt_ceq (wt_v_sa eσ44)
                have bb45 := wt_tn z35.1
                have bb46 := wt_bd (wt_ga z35.2 319 (Int32.toNatClampNeg z35.1))
                have g47 : 0 ≤ (wt_ga z35.2 319 (Int32.toNatClampNeg z35.1)).toInt ∧ (wt_ga z35.2 319 (Int32.toNatClampNeg z35.1)).toInt ≤ 59 := wt_R_ga l39 16 rfl 319 (by decide) (by decide) (Int32.toNatClampNeg z35.1)
                have tt48 : (wt_ga z35.2 319 (Int32.toNatClampNeg z35.1)).toInt = (wt_ga σ33 319 (Int32.toNatClampNeg z35.1)).toInt := congrArg Int32.toInt (l37.2 319 (by (try dsimp only); omega) (Int32.toNatClampNeg z35.1))
                have bb49 := wt_bd (wt_ga σ33 319 (Int32.toNatClampNeg z35.1))
                have g50 : 0 ≤ (wt_ga σ33 319 (Int32.toNatClampNeg z35.1)).toInt ∧ (wt_ga σ33 319 (Int32.toNatClampNeg z35.1)).toInt ≤ 59 := wt_R_ga rσ33 16 rfl 319 (by decide) (by decide) (Int32.toNatClampNeg z35.1)
                have tt51 : (wt_ga σ33 319 (Int32.toNatClampNeg z35.1)).toInt = (wt_ga z18.2 319 (Int32.toNatClampNeg z35.1)).toInt := congrArg Int32.toInt (fσ33.2 319 (fun z => z) (Int32.toNatClampNeg z35.1))
                have bb52 := wt_bd (wt_ga z18.2 319 (Int32.toNatClampNeg z35.1))
                have g53 : 0 ≤ (wt_ga z18.2 319 (Int32.toNatClampNeg z35.1)).toInt ∧ (wt_ga z18.2 319 (Int32.toNatClampNeg z35.1)).toInt ≤ 59 := wt_R_ga l22 16 rfl 319 (by decide) (by decide) (Int32.toNatClampNeg z35.1)
                have tt54 : (wt_ga z18.2 319 (Int32.toNatClampNeg z35.1)).toInt = (wt_ga r13 319 (Int32.toNatClampNeg z35.1)).toInt := congrArg Int32.toInt (l20.2 319 (by (try dsimp only); omega) (Int32.toNatClampNeg z35.1))
                have bb55 := wt_bd (wt_ga r13 319 (Int32.toNatClampNeg z35.1))
                have g56 : 0 ≤ (wt_ga r13 319 (Int32.toNatClampNeg z35.1)).toInt ∧ (wt_ga r13 319 (Int32.toNatClampNeg z35.1)).toInt ≤ 59 := wt_R_ga ri16 16 rfl 319 (by decide) (by decide) (Int32.toNatClampNeg z35.1)
                have tt57 : (wt_ga r13 319 (Int32.toNatClampNeg z35.1)).toInt = (wt_ga σ 319 (Int32.toNatClampNeg z35.1)).toInt := congrArg Int32.toInt (f15.2 319 (by (try dsimp only); omega) (Int32.toNatClampNeg z35.1))
                have bb58 := wt_bd (wt_ga σ 319 (Int32.toNatClampNeg z35.1))
                have g59 : 0 ≤ (wt_ga σ 319 (Int32.toNatClampNeg z35.1)).toInt ∧ (wt_ga σ 319 (Int32.toNatClampNeg z35.1)).toInt ≤ 59 := wt_R_ga r0 16 rfl 319 (by decide) (by decide) (Int32.toNatClampNeg z35.1)
                have rσ44 := wt_RI_no l39 eσ44 318 319 (by decide) (by decide) (by decide)
                refine hKK34 _ ⟨(wt_fr.tr (wt_fr.tr wt_fr.rf l37 (fun i k h => h.elim) (fun i h => by (try dsimp only at h); exact (by omega))) fσ44 (fun i k h => h.elim) (fun i h => by (try dsimp only at h); exact (by omega))), (wt_nn (B := x2) (by omega) (by omega)), rσ44⟩ ?_
                show (x2.toInt - (z35.1 + (1 : Int32)).toInt + 0).toNat < (x2.toInt - z35.1.toInt + 0).toNat
                exact wt_mu (by omega) (by omega)
            · skip
              exact ⟨wt_fr.rf, (show 0 ≤ ((0 : Int32)).toInt by omega), rσ33⟩
            · skip
              show (x2.toInt - (0 : Int32).toInt + 0).toNat < n
              omega
          · skip
            have c60 := wt_nceq h31
            rw [wt_lm1] at c60
            refine wt_T_some ?_
            exact ⟨(wt_fr.tr (wt_fr.tr wt_fr.rf f15 (fun i k h => h.elim) (fun i h => by (try dsimp only at h); exact Or.inl (by omega))) l20 (fun i k h => h.elim) (fun i h => by (try dsimp only at h); exact Or.inl (by omega))), l22⟩
        · skip
          have c61 := wt_ncle h24
          refine wt_T_gd (wt_ix (by omega) (by omega)) ?_
          have bb62 := wt_tn z18.1
          have bb63 := wt_bd (wt_ga z18.2 319 (Int32.toNatClampNeg z18.1))
          have g64 : 0 ≤ (wt_ga z18.2 319 (Int32.toNatClampNeg z18.1)).toInt ∧ (wt_ga z18.2 319 (Int32.toNatClampNeg z18.1)).toInt ≤ 59 := wt_R_ga l22 16 rfl 319 (by decide) (by decide) (Int32.toNatClampNeg z18.1)
          have tt65 : (wt_ga z18.2 319 (Int32.toNatClampNeg z18.1)).toInt = (wt_ga r13 319 (Int32.toNatClampNeg z18.1)).toInt := congrArg Int32.toInt (l20.2 319 (by (try dsimp only); omega) (Int32.toNatClampNeg z18.1))
          have bb66 := wt_bd (wt_ga r13 319 (Int32.toNatClampNeg z18.1))
          have g67 : 0 ≤ (wt_ga r13 319 (Int32.toNatClampNeg z18.1)).toInt ∧ (wt_ga r13 319 (Int32.toNatClampNeg z18.1)).toInt ≤ 59 := wt_R_ga ri16 16 rfl 319 (by decide) (by decide) (Int32.toNatClampNeg z18.1)
          have tt68 : (wt_ga r13 319 (Int32.toNatClampNeg z18.1)).toInt = (wt_ga σ 319 (Int32.toNatClampNeg z18.1)).toInt := congrArg Int32.toInt (f15.2 319 (by (try dsimp only); omega) (Int32.toNatClampNeg z18.1))
          have bb69 := wt_bd (wt_ga σ 319 (Int32.toNatClampNeg z18.1))
          have g70 : 0 ≤ (wt_ga σ 319 (Int32.toNatClampNeg z18.1)).toInt ∧ (wt_ga σ 319 (Int32.toNatClampNeg z18.1)).toInt ≤ 59 := wt_R_ga r0 16 rfl 319 (by decide) (by decide) (Int32.toNatClampNeg z18.1)
          refine wt_T_bi (wq_md_needsWord n hn (wt_ga z18.2 319 (Int32.toNatClampNeg z18.1)) z18.2 l22 (by omega) (by omega)) (fun r71 h72 => ?_)
          obtain ⟨f73, ri74⟩ := h72
          refine hKK17 _ ⟨(wt_fr.tr (wt_fr.tr wt_fr.rf l20 (fun i k h => h.elim) (fun i h => by (try dsimp only at h); exact (by omega))) f73 (fun i k h => h.elim) (fun i h => by (try dsimp only at h); exact (by omega))), (wt_nn (B := x2) (by omega) (by omega)), ri74⟩ ?_
          show (x2.toInt - (z18.1 + (1 : Int32)).toInt + 0).toNat < (x2.toInt - z18.1.toInt + 0).toNat
          exact wt_mu (by omega) (by omega)
      · skip
        exact ⟨wt_fr.rf, (show 0 ≤ ((0 : Int32)).toInt by omega), ri16⟩
      · skip
        show (x2.toInt - (0 : Int32).toInt + 0).toNat < n
        omega
    · skip
      have c75 := wt_nceq h11
      refine wt_T_it (fun s : Int32 × wt_St => wt_fr (fun i k => (i = 108 ∧ k = 60)) (fun i => i = 319 ∨ i = 287 ∨ i = 318) σ s.2 ∧ 0 ≤ (s.1).toInt ∧ wt_RI s.2) (fun s : Int32 × wt_St => ((wt_gf s.2 108 28).toInt - s.1.toInt + 0).toNat) (fun KK76 z77 I78 hKK76 => ?_) _ _ ?_ ?_
      · skip
        obtain ⟨l79, l80, l81⟩ := I78
        unfold wp_md_tries_B107
        have bb82 := wt_bd (wt_gf z77.2 108 28)
        have g83 : 0 ≤ (wt_gf z77.2 108 28).toInt ∧ (wt_gf z77.2 108 28).toInt ≤ 60 := wt_R_gf l81 6 rfl
        have tt84 : (wt_gf z77.2 108 28).toInt = (wt_gf σ 108 28).toInt := congrArg Int32.toInt (l79.1 108 28 (by (try dsimp only); omega))
        have bb85 := wt_bd (wt_gf σ 108 28)
        have g86 : 0 ≤ (wt_gf σ 108 28).toInt ∧ (wt_gf σ 108 28).toInt ≤ 60 := wt_R_gf r0 6 rfl
        have bb87 := wt_bd z77.1
        refine wt_T_if (fun h88 => ?_) (fun h88 => ?_)
        · skip
          have c89 := wt_cle h88
          refine wt_T_some ?_
          exact ⟨(wt_fr.tr wt_fr.rf l79 (fun i k h => by (try dsimp only at h); exact (by omega)) (fun i h => by (try dsimp only at h); rcases h with h | h | h; exact Or.inr (Or.inr ((by omega))); exact Or.inl (by omega); exact Or.inr (Or.inl (by omega)))), l81⟩
        · skip
          have c90 := wt_ncle h88
          refine wt_T_bi (wq_md_isOf n hn z77.1 x1 x2 z77.2 l81 (by omega) (by omega) (by omega) (by omega) (by omega) (by omega)) (fun r91 h92 => ?_)
          have e93 := h92
          have bb94 := wt_bd r91.1
          rw [e93]
          refine wt_T_if (fun h95 => ?_) (fun h95 => ?_)
          · skip
            have c96 := wt_ceq h95
            unfold wp_md_tries_B177
            refine hKK76 _ ⟨(wt_fr.tr wt_fr.rf l79 (fun i k h => by (try dsimp only at h); exact (by omega)) (fun i h => by (try dsimp only at h); rcases h with h | h | h; exact Or.inl (by omega); exact Or.inr (Or.inl (by omega)); exact Or.inr (Or.inr ((by omega))))), (wt_nn (B := wt_gf z77.2 108 28) (by omega) (by omega)), l81⟩ ?_
            show ((wt_gf z77.2 108 28).toInt - (z77.1 + (1 : Int32)).toInt + 0).toNat < ((wt_gf z77.2 108 28).toInt - z77.1.toInt + 0).toNat
            exact wt_mu (by omega) (by omega)
          · skip
            have c97 := wt_nceq h95
            refine wt_T_if (fun h98 => ?_) (fun h98 => ?_)
            · skip
              have c99 := wt_cle h98
              unfold wp_md_tries_B151
              refine wt_T_gd (wt_ix (by omega) (by omega)) ?_
              obtain ⟨σ100, eσ100⟩ : ∃ z : wt_St, z = wt_sa z77.2 319 (Int32.toNatClampNeg x2) z77.1 := ⟨_, rfl⟩
              rw [← eσ100]
              have fσ100 := wt_fr_sa eσ100
              have vσ100 := wt_ceq (wt_v_sa eσ100)
              have bb101 := wt_tn x2
              have rσ100 := wt_RI_in l81 eσ100 16 rfl (by decide) (by decide) (show 0 ≤ (z77.1).toInt by omega) (show (z77.1).toInt ≤ 59 by omega)
              refine wt_T_bi (wq_md_priceOf n hn z77.1 σ100 rσ100 (by omega) (by omega)) (fun r102 h103 => ?_)
              have e104 := h103
              have bb105 := wt_bd r102.1
              rw [e104]
              have k110 : (1 : Int32).toInt = 1 := by decide
              have j111 := wt_i1 (c := x2) (by omega)
              have bb112 := wt_bd (wt_ga σ100 253 (Int32.toNatClampNeg x1))
              have g113 : 0 ≤ (wt_ga σ100 253 (Int32.toNatClampNeg x1)).toInt ∧ (wt_ga σ100 253 (Int32.toNatClampNeg x1)).toInt ≤ 12 := wt_R_ga rσ100 9 rfl 253 (by decide) (by decide) (Int32.toNatClampNeg x1)
              have tt114 : (wt_ga σ100 253 (Int32.toNatClampNeg x1)).toInt = (wt_ga z77.2 253 (Int32.toNatClampNeg x1)).toInt := congrArg Int32.toInt (fσ100.2 253 (by (try dsimp only); omega) (Int32.toNatClampNeg x1))
              have bb115 := wt_bd (wt_ga z77.2 253 (Int32.toNatClampNeg x1))
              have g116 : 0 ≤ (wt_ga z77.2 253 (Int32.toNatClampNeg x1)).toInt ∧ (wt_ga z77.2 253 (Int32.toNatClampNeg x1)).toInt ≤ 12 := wt_R_ga l81 9 rfl 253 (by decide) (by decide) (Int32.toNatClampNeg x1)
              have tt117 : (wt_ga z77.2 253 (Int32.toNatClampNeg x1)).toInt = (wt_ga σ 253 (Int32.toNatClampNeg x1)).toInt := congrArg Int32.toInt (l79.2 253 (by (try dsimp only); omega) (Int32.toNatClampNeg x1))
              refine wt_T_bi (hR (x1, x2 + (1 : Int32), x3, x4 + r102.1, σ100) rσ100 rfl (show 0 ≤ (x2 + (1 : Int32)).toInt by omega) (show (x2 + (1 : Int32)).toInt ≤ (wt_ga σ100 253 (Int32.toNatClampNeg x1)).toInt by omega) (show (12 - (x2 + (1 : Int32)).toInt).toNat < (12 - x2.toInt).toNat by omega)) (fun r106 h107 => ?_)
              obtain ⟨f108, ri109⟩ : wt_fr (fun i k => (i = 108 ∧ k = 60)) (fun i => i = 287 ∨ i = 318 ∨ i = 319) σ100 r106 ∧ wt_RI r106 := h107
              unfold wp_md_tries_B177
              have bb118 := wt_bd (wt_gf r106 108 28)
              have g119 : 0 ≤ (wt_gf r106 108 28).toInt ∧ (wt_gf r106 108 28).toInt ≤ 60 := wt_R_gf ri109 6 rfl
              have tt120 : (wt_gf r106 108 28).toInt = (wt_gf σ100 108 28).toInt := congrArg Int32.toInt (f108.1 108 28 (by (try dsimp only); omega))
              have bb121 := wt_bd (wt_gf σ100 108 28)
              have g122 : 0 ≤ (wt_gf σ100 108 28).toInt ∧ (wt_gf σ100 108 28).toInt ≤ 60 := wt_R_gf rσ100 6 rfl
              have tt123 : (wt_gf σ100 108 28).toInt = (wt_gf z77.2 108 28).toInt := congrArg Int32.toInt (fσ100.1 108 28 (fun z => z))
              refine hKK76 _ ⟨(wt_fr.tr (wt_fr.tr (wt_fr.tr wt_fr.rf l79 (fun i k h => by (try dsimp only at h); exact (by omega)) (fun i h => by (try dsimp only at h); rcases h with h | h | h; exact Or.inl (by omega); exact Or.inr (Or.inl (by omega)); exact Or.inr (Or.inr ((by omega))))) fσ100 (fun i k h => h.elim) (fun i h => by (try dsimp only at h); exact Or.inl (by omega))) f108 (fun i k h => by (try dsimp only at h); exact (by omega)) (fun i h => by (try dsimp only at h); rcases h with h | h | h; exact Or.inr (Or.inl (by omega)); exact Or.inr (Or.inr ((by omega))); exact Or.inl (by omega))), (wt_nn (B := wt_gf z77.2 108 28) (by omega) (by omega)), ri109⟩ ?_
              show ((wt_gf r106 108 28).toInt - (z77.1 + (1 : Int32)).toInt + 0).toNat < ((wt_gf z77.2 108 28).toInt - z77.1.toInt + 0).toNat
              exact wt_mu (by omega) (by omega)
            · skip
              have c124 := wt_ncle h98
              have k125 : (1 : Int32).toInt = 1 := by decide
              obtain ⟨j126, j126a, j126b⟩ := wt_subI x2 (1 : Int32)
              refine wt_T_gd (wt_ix (by omega) (by omega)) ?_
              have bb127 := wt_tn (x2 - (1 : Int32))
              have bb128 := wt_bd (wt_ga z77.2 319 (Int32.toNatClampNeg (x2 - (1 : Int32))))
              have g129 : 0 ≤ (wt_ga z77.2 319 (Int32.toNatClampNeg (x2 - (1 : Int32)))).toInt ∧ (wt_ga z77.2 319 (Int32.toNatClampNeg (x2 - (1 : Int32)))).toInt ≤ 59 := wt_R_ga l81 16 rfl 319 (by decide) (by decide) (Int32.toNatClampNeg (x2 - (1 : Int32)))
              refine wt_T_bi (wq_md_mayFollow n hn (wt_ga z77.2 319 (Int32.toNatClampNeg (x2 - (1 : Int32)))) z77.1 z77.2 l81 (by omega) (by omega) (by omega) (by omega)) (fun r130 h131 => ?_)
              have e132 := h131
              have bb133 := wt_bd r130.1
              rw [e132]
              refine wt_T_if (fun h134 => ?_) (fun h134 => ?_)
              · skip
                have c135 := wt_ceq h134
                unfold wp_md_tries_B177
                refine hKK76 _ ⟨(wt_fr.tr wt_fr.rf l79 (fun i k h => by (try dsimp only at h); exact (by omega)) (fun i h => by (try dsimp only at h); rcases h with h | h | h; exact Or.inl (by omega); exact Or.inr (Or.inl (by omega)); exact Or.inr (Or.inr ((by omega))))), (wt_nn (B := wt_gf z77.2 108 28) (by omega) (by omega)), l81⟩ ?_
                show ((wt_gf z77.2 108 28).toInt - (z77.1 + (1 : Int32)).toInt + 0).toNat < ((wt_gf z77.2 108 28).toInt - z77.1.toInt + 0).toNat
                exact wt_mu (by omega) (by omega)
              · skip
                have c136 := wt_nceq h134
                unfold wp_md_tries_B151
                refine wt_T_gd (wt_ix (by omega) (by omega)) ?_
                obtain ⟨σ137, eσ137⟩ : ∃ z : wt_St, z = wt_sa z77.2 319 (Int32.toNatClampNeg x2) z77.1 := ⟨_, rfl⟩
                rw [← eσ137]
                have fσ137 := wt_fr_sa eσ137
                have vσ137 := wt_ceq (wt_v_sa eσ137)
                have bb138 := wt_tn x2
                have rσ137 := wt_RI_in l81 eσ137 16 rfl (by decide) (by decide) (show 0 ≤ (z77.1).toInt by omega) (show (z77.1).toInt ≤ 59 by omega)
                refine wt_T_bi (wq_md_priceOf n hn z77.1 σ137 rσ137 (by omega) (by omega)) (fun r139 h140 => ?_)
                have e141 := h140
                have bb142 := wt_bd r139.1
                rw [e141]
                have j147 := wt_i1 (c := x2) (by omega)
                have bb148 := wt_bd (wt_ga σ137 253 (Int32.toNatClampNeg x1))
                have g149 : 0 ≤ (wt_ga σ137 253 (Int32.toNatClampNeg x1)).toInt ∧ (wt_ga σ137 253 (Int32.toNatClampNeg x1)).toInt ≤ 12 := wt_R_ga rσ137 9 rfl 253 (by decide) (by decide) (Int32.toNatClampNeg x1)
                have tt150 : (wt_ga σ137 253 (Int32.toNatClampNeg x1)).toInt = (wt_ga z77.2 253 (Int32.toNatClampNeg x1)).toInt := congrArg Int32.toInt (fσ137.2 253 (by (try dsimp only); omega) (Int32.toNatClampNeg x1))
                have bb151 := wt_bd (wt_ga z77.2 253 (Int32.toNatClampNeg x1))
                have g152 : 0 ≤ (wt_ga z77.2 253 (Int32.toNatClampNeg x1)).toInt ∧ (wt_ga z77.2 253 (Int32.toNatClampNeg x1)).toInt ≤ 12 := wt_R_ga l81 9 rfl 253 (by decide) (by decide) (Int32.toNatClampNeg x1)
                have tt153 : (wt_ga z77.2 253 (Int32.toNatClampNeg x1)).toInt = (wt_ga σ 253 (Int32.toNatClampNeg x1)).toInt := congrArg Int32.toInt (l79.2 253 (by (try dsimp only); omega) (Int32.toNatClampNeg x1))
                refine wt_T_bi (hR (x1, x2 + (1 : Int32), x3, x4 + r139.1, σ137) rσ137 rfl (show 0 ≤ (x2 + (1 : Int32)).toInt by omega) (show (x2 + (1 : Int32)).toInt ≤ (wt_ga σ137 253 (Int32.toNatClampNeg x1)).toInt by omega) (show (12 - (x2 + (1 : Int32)).toInt).toNat < (12 - x2.toInt).toNat by omega)) (fun r143 h144 => ?_)
                obtain ⟨f145, ri146⟩ : wt_fr (fun i k => (i = 108 ∧ k = 60)) (fun i => i = 287 ∨ i = 318 ∨ i = 319) σ137 r143 ∧ wt_RI r143 := h144
                unfold wp_md_tries_B177
                have bb154 := wt_bd (wt_gf r143 108 28)
                have g155 : 0 ≤ (wt_gf r143 108 28).toInt ∧ (wt_gf r143 108 28).toInt ≤ 60 := wt_R_gf ri146 6 rfl
                have tt156 : (wt_gf r143 108 28).toInt = (wt_gf σ137 108 28).toInt := congrArg Int32.toInt (f145.1 108 28 (by (try dsimp only); omega))
                have bb157 := wt_bd (wt_gf σ137 108 28)
                have g158 : 0 ≤ (wt_gf σ137 108 28).toInt ∧ (wt_gf σ137 108 28).toInt ≤ 60 := wt_R_gf rσ137 6 rfl
                have tt159 : (wt_gf σ137 108 28).toInt = (wt_gf z77.2 108 28).toInt := congrArg Int32.toInt (fσ137.1 108 28 (fun z => z))
                refine hKK76 _ ⟨(wt_fr.tr (wt_fr.tr (wt_fr.tr wt_fr.rf l79 (fun i k h => by (try dsimp only at h); exact (by omega)) (fun i h => by (try dsimp only at h); rcases h with h | h | h; exact Or.inl (by omega); exact Or.inr (Or.inl (by omega)); exact Or.inr (Or.inr ((by omega))))) fσ137 (fun i k h => h.elim) (fun i h => by (try dsimp only at h); exact Or.inl (by omega))) f145 (fun i k h => by (try dsimp only at h); exact (by omega)) (fun i h => by (try dsimp only at h); rcases h with h | h | h; exact Or.inr (Or.inl (by omega)); exact Or.inr (Or.inr ((by omega))); exact Or.inl (by omega))), (wt_nn (B := wt_gf z77.2 108 28) (by omega) (by omega)), ri146⟩ ?_
                show ((wt_gf r143 108 28).toInt - (z77.1 + (1 : Int32)).toInt + 0).toNat < ((wt_gf z77.2 108 28).toInt - z77.1.toInt + 0).toNat
                exact wt_mu (by omega) (by omega)
      · skip
        have bb160 := wt_bd (wt_gf σ 108 28)
        have g161 : 0 ≤ (wt_gf σ 108 28).toInt ∧ (wt_gf σ 108 28).toInt ≤ 60 := wt_R_gf r0 6 rfl
        exact ⟨wt_fr.rf, (show 0 ≤ ((0 : Int32)).toInt by omega), r0⟩
      · skip
        have bb162 := wt_bd (wt_gf σ 108 28)
        have g163 : 0 ≤ (wt_gf σ 108 28).toInt ∧ (wt_gf σ 108 28).toInt ≤ 60 := wt_R_gf r0 6 rfl
        show ((wt_gf σ 108 28).toInt - (0 : Int32).toInt + 0).toNat < n
        omega
  · skip
    have c164 := wt_nceq h9
    rw [wt_lm1] at c164
    refine wt_T_if (fun h165 => ?_) (fun h165 => ?_)
    · skip
      have c166 := wt_clt h165
      unfold wp_md_tries_B18
      have k0 : (0 : Int32).toInt = 0 := by decide
      refine wt_T_gd (wt_ix (by omega) (by omega)) ?_
      refine wt_T_if (fun h167 => ?_) (fun h167 => ?_)
      · skip
        have c168 := wt_ceq h167
        refine wt_T_bi (wq_md_needsNone n hn σ r0) (fun r169 h170 => ?_)
        obtain ⟨f171, ri172⟩ := h170
        refine wt_T_it (fun s : Int32 × wt_St => wt_fr (fun i k => False) (fun i => i = 287) r169 s.2 ∧ 0 ≤ (s.1).toInt ∧ wt_RI s.2) (fun s : Int32 × wt_St => (x2.toInt - s.1.toInt + 0).toNat) (fun KK173 z174 I175 hKK173 => ?_) _ _ ?_ ?_
        · skip
          obtain ⟨l176, l177, l178⟩ := I175
          unfold wp_md_tries_B35
          have bb179 := wt_bd z174.1
          refine wt_T_if (fun h180 => ?_) (fun h180 => ?_)
          · skip
            have c181 := wt_cle h180
            refine wt_T_bi (wq_md_lacking n hn x3 z174.2 l178) (fun r182 h183 => ?_)
            obtain ⟨e184, pp185⟩ := h183
            have bb186 := wt_bd r182.1
            rw [e184]
            refine wt_T_if (fun h187 => ?_) (fun h187 => ?_)
            · skip
              have c188 := wt_ceq h187
              rw [wt_lm1] at c188
              obtain ⟨σ189, eσ189⟩ : ∃ z : wt_St, z = wt_sf z174.2 108 60 x4 := ⟨_, rfl⟩
              rw [← eσ189]
              have fσ189 := wt_fr_sf eσ189
              have vσ189 := wt_ceq (wt_v_sf eσ189)
              have rσ189 := wt_RI_fno l178 eσ189 (Or.inr (by decide))
              refine wt_T_it (fun s : Int32 × wt_St => wt_fr (fun i k => False) (fun i => i = 318) σ189 s.2 ∧ 0 ≤ (s.1).toInt ∧ wt_RI s.2) (fun s : Int32 × wt_St => (x2.toInt - s.1.toInt + 0).toNat) (fun KK190 z191 I192 hKK190 => ?_) _ _ ?_ ?_
              · skip
                obtain ⟨l193, l194, l195⟩ := I192
                unfold wp_md_tries_B77
                have bb196 := wt_bd z191.1
                refine wt_T_if (fun h197 => ?_) (fun h197 => ?_)
                · skip
                  have c198 := wt_cle h197
                  refine wt_T_some ?_
                  exact ⟨(wt_fr.tr (wt_fr.tr (wt_fr.tr (wt_fr.tr wt_fr.rf f171 (fun i k h => h.elim) (fun i h => by (try dsimp only at h); exact Or.inl (by omega))) l176 (fun i k h => h.elim) (fun i h => by (try dsimp only at h); exact Or.inl (by omega))) fσ189 (fun i k h => by (try dsimp only at h); exact (by omega)) (fun i h => h.elim)) l193 (fun i k h => h.elim) (fun i h => by (try dsimp only at h); exact Or.inr (Or.inl (by omega)))), l195⟩
                · skip
                  have c199 := wt_ncle h197
                  refine wt_T_gd (wt_ix (by omega) (by omega)) ?_
                  refine wt_T_gd (wt_ix (by omega) (by omega)) ?_
                  obtain ⟨σ200, eσ200⟩ : ∃ z : wt_St, z = wt_sa z191.2 318 (Int32.toNatClampNeg z191.1) (wt_ga z191.2 319 (Int32.toNatClampNeg z191.1)) := ⟨_, rfl⟩
                  rw [← eσ200]
                  have fσ200 := wt_fr_sa eσ200
                  have vσ200 := wt_ceq (wt_v_sa eσ200)
                  have bb201 := wt_tn z191.1
                  have bb202 := wt_bd (wt_ga z191.2 319 (Int32.toNatClampNeg z191.1))
                  have g203 : 0 ≤ (wt_ga z191.2 319 (Int32.toNatClampNeg z191.1)).toInt ∧ (wt_ga z191.2 319 (Int32.toNatClampNeg z191.1)).toInt ≤ 59 := wt_R_ga l195 16 rfl 319 (by decide) (by decide) (Int32.toNatClampNeg z191.1)
                  have tt204 : (wt_ga z191.2 319 (Int32.toNatClampNeg z191.1)).toInt = (wt_ga σ189 319 (Int32.toNatClampNeg z191.1)).toInt := congrArg Int32.toInt (l193.2 319 (by (try dsimp only); omega) (Int32.toNatClampNeg z191.1))
                  have bb205 := wt_bd (wt_ga σ189 319 (Int32.toNatClampNeg z191.1))
                  have g206 : 0 ≤ (wt_ga σ189 319 (Int32.toNatClampNeg z191.1)).toInt ∧ (wt_ga σ189 319 (Int32.toNatClampNeg z191.1)).toInt ≤ 59 := wt_R_ga rσ189 16 rfl 319 (by decide) (by decide) (Int32.toNatClampNeg z191.1)
                  have tt207 : (wt_ga σ189 319 (Int32.toNatClampNeg z191.1)).toInt = (wt_ga z174.2 319 (Int32.toNatClampNeg z191.1)).toInt := congrArg Int32.toInt (fσ189.2 319 (fun z => z) (Int32.toNatClampNeg z191.1))
                  have bb208 := wt_bd (wt_ga z174.2 319 (Int32.toNatClampNeg z191.1))
                  have g209 : 0 ≤ (wt_ga z174.2 319 (Int32.toNatClampNeg z191.1)).toInt ∧ (wt_ga z174.2 319 (Int32.toNatClampNeg z191.1)).toInt ≤ 59 := wt_R_ga l178 16 rfl 319 (by decide) (by decide) (Int32.toNatClampNeg z191.1)
                  have tt210 : (wt_ga z174.2 319 (Int32.toNatClampNeg z191.1)).toInt = (wt_ga r169 319 (Int32.toNatClampNeg z191.1)).toInt := congrArg Int32.toInt (l176.2 319 (by (try dsimp only); omega) (Int32.toNatClampNeg z191.1))
                  have bb211 := wt_bd (wt_ga r169 319 (Int32.toNatClampNeg z191.1))
                  have g212 : 0 ≤ (wt_ga r169 319 (Int32.toNatClampNeg z191.1)).toInt ∧ (wt_ga r169 319 (Int32.toNatClampNeg z191.1)).toInt ≤ 59 := wt_R_ga ri172 16 rfl 319 (by decide) (by decide) (Int32.toNatClampNeg z191.1)
                  have tt213 : (wt_ga r169 319 (Int32.toNatClampNeg z191.1)).toInt = (wt_ga σ 319 (Int32.toNatClampNeg z191.1)).toInt := congrArg Int32.toInt (f171.2 319 (by (try dsimp only); omega) (Int32.toNatClampNeg z191.1))
                  have bb214 := wt_bd (wt_ga σ 319 (Int32.toNatClampNeg z191.1))
                  have g215 : 0 ≤ (wt_ga σ 319 (Int32.toNatClampNeg z191.1)).toInt ∧ (wt_ga σ 319 (Int32.toNatClampNeg z191.1)).toInt ≤ 59 := wt_R_ga r0 16 rfl 319 (by decide) (by decide) (Int32.toNatClampNeg z191.1)
                  have rσ200 := wt_RI_no l195 eσ200 318 319 (by decide) (by decide) (by decide)
                  refine hKK190 _ ⟨(wt_fr.tr (wt_fr.tr wt_fr.rf l193 (fun i k h => h.elim) (fun i h => by (try dsimp only at h); exact (by omega))) fσ200 (fun i k h => h.elim) (fun i h => by (try dsimp only at h); exact (by omega))), (wt_nn (B := x2) (by omega) (by omega)), rσ200⟩ ?_
                  show (x2.toInt - (z191.1 + (1 : Int32)).toInt + 0).toNat < (x2.toInt - z191.1.toInt + 0).toNat
                  exact wt_mu (by omega) (by omega)
              · skip
                exact ⟨wt_fr.rf, (show 0 ≤ ((0 : Int32)).toInt by omega), rσ189⟩
              · skip
                show (x2.toInt - (0 : Int32).toInt + 0).toNat < n
                omega
            · skip
              have c216 := wt_nceq h187
              rw [wt_lm1] at c216
              refine wt_T_some ?_
              exact ⟨(wt_fr.tr (wt_fr.tr wt_fr.rf f171 (fun i k h => h.elim) (fun i h => by (try dsimp only at h); exact Or.inl (by omega))) l176 (fun i k h => h.elim) (fun i h => by (try dsimp only at h); exact Or.inl (by omega))), l178⟩
          · skip
            have c217 := wt_ncle h180
            refine wt_T_gd (wt_ix (by omega) (by omega)) ?_
            have bb218 := wt_tn z174.1
            have bb219 := wt_bd (wt_ga z174.2 319 (Int32.toNatClampNeg z174.1))
            have g220 : 0 ≤ (wt_ga z174.2 319 (Int32.toNatClampNeg z174.1)).toInt ∧ (wt_ga z174.2 319 (Int32.toNatClampNeg z174.1)).toInt ≤ 59 := wt_R_ga l178 16 rfl 319 (by decide) (by decide) (Int32.toNatClampNeg z174.1)
            have tt221 : (wt_ga z174.2 319 (Int32.toNatClampNeg z174.1)).toInt = (wt_ga r169 319 (Int32.toNatClampNeg z174.1)).toInt := congrArg Int32.toInt (l176.2 319 (by (try dsimp only); omega) (Int32.toNatClampNeg z174.1))
            have bb222 := wt_bd (wt_ga r169 319 (Int32.toNatClampNeg z174.1))
            have g223 : 0 ≤ (wt_ga r169 319 (Int32.toNatClampNeg z174.1)).toInt ∧ (wt_ga r169 319 (Int32.toNatClampNeg z174.1)).toInt ≤ 59 := wt_R_ga ri172 16 rfl 319 (by decide) (by decide) (Int32.toNatClampNeg z174.1)
            have tt224 : (wt_ga r169 319 (Int32.toNatClampNeg z174.1)).toInt = (wt_ga σ 319 (Int32.toNatClampNeg z174.1)).toInt := congrArg Int32.toInt (f171.2 319 (by (try dsimp only); omega) (Int32.toNatClampNeg z174.1))
            have bb225 := wt_bd (wt_ga σ 319 (Int32.toNatClampNeg z174.1))
            have g226 : 0 ≤ (wt_ga σ 319 (Int32.toNatClampNeg z174.1)).toInt ∧ (wt_ga σ 319 (Int32.toNatClampNeg z174.1)).toInt ≤ 59 := wt_R_ga r0 16 rfl 319 (by decide) (by decide) (Int32.toNatClampNeg z174.1)
            refine wt_T_bi (wq_md_needsWord n hn (wt_ga z174.2 319 (Int32.toNatClampNeg z174.1)) z174.2 l178 (by omega) (by omega)) (fun r227 h228 => ?_)
            obtain ⟨f229, ri230⟩ := h228
            refine hKK173 _ ⟨(wt_fr.tr (wt_fr.tr wt_fr.rf l176 (fun i k h => h.elim) (fun i h => by (try dsimp only at h); exact (by omega))) f229 (fun i k h => h.elim) (fun i h => by (try dsimp only at h); exact (by omega))), (wt_nn (B := x2) (by omega) (by omega)), ri230⟩ ?_
            show (x2.toInt - (z174.1 + (1 : Int32)).toInt + 0).toNat < (x2.toInt - z174.1.toInt + 0).toNat
            exact wt_mu (by omega) (by omega)
        · skip
          exact ⟨wt_fr.rf, (show 0 ≤ ((0 : Int32)).toInt by omega), ri172⟩
        · skip
          show (x2.toInt - (0 : Int32).toInt + 0).toNat < n
          omega
      · skip
        have c231 := wt_nceq h167
        refine wt_T_it (fun s : Int32 × wt_St => wt_fr (fun i k => (i = 108 ∧ k = 60)) (fun i => i = 319 ∨ i = 287 ∨ i = 318) σ s.2 ∧ 0 ≤ (s.1).toInt ∧ wt_RI s.2) (fun s : Int32 × wt_St => ((wt_gf s.2 108 28).toInt - s.1.toInt + 0).toNat) (fun KK232 z233 I234 hKK232 => ?_) _ _ ?_ ?_
        · skip
          obtain ⟨l235, l236, l237⟩ := I234
          unfold wp_md_tries_B107
          have bb238 := wt_bd (wt_gf z233.2 108 28)
          have g239 : 0 ≤ (wt_gf z233.2 108 28).toInt ∧ (wt_gf z233.2 108 28).toInt ≤ 60 := wt_R_gf l237 6 rfl
          have tt240 : (wt_gf z233.2 108 28).toInt = (wt_gf σ 108 28).toInt := congrArg Int32.toInt (l235.1 108 28 (by (try dsimp only); omega))
          have bb241 := wt_bd (wt_gf σ 108 28)
          have g242 : 0 ≤ (wt_gf σ 108 28).toInt ∧ (wt_gf σ 108 28).toInt ≤ 60 := wt_R_gf r0 6 rfl
          have bb243 := wt_bd z233.1
          refine wt_T_if (fun h244 => ?_) (fun h244 => ?_)
          · skip
            have c245 := wt_cle h244
            refine wt_T_some ?_
            exact ⟨(wt_fr.tr wt_fr.rf l235 (fun i k h => by (try dsimp only at h); exact (by omega)) (fun i h => by (try dsimp only at h); rcases h with h | h | h; exact Or.inr (Or.inr ((by omega))); exact Or.inl (by omega); exact Or.inr (Or.inl (by omega)))), l237⟩
          · skip
            have c246 := wt_ncle h244
            refine wt_T_bi (wq_md_isOf n hn z233.1 x1 x2 z233.2 l237 (by omega) (by omega) (by omega) (by omega) (by omega) (by omega)) (fun r247 h248 => ?_)
            have e249 := h248
            have bb250 := wt_bd r247.1
            rw [e249]
            refine wt_T_if (fun h251 => ?_) (fun h251 => ?_)
            · skip
              have c252 := wt_ceq h251
              unfold wp_md_tries_B177
              refine hKK232 _ ⟨(wt_fr.tr wt_fr.rf l235 (fun i k h => by (try dsimp only at h); exact (by omega)) (fun i h => by (try dsimp only at h); rcases h with h | h | h; exact Or.inl (by omega); exact Or.inr (Or.inl (by omega)); exact Or.inr (Or.inr ((by omega))))), (wt_nn (B := wt_gf z233.2 108 28) (by omega) (by omega)), l237⟩ ?_
              show ((wt_gf z233.2 108 28).toInt - (z233.1 + (1 : Int32)).toInt + 0).toNat < ((wt_gf z233.2 108 28).toInt - z233.1.toInt + 0).toNat
              exact wt_mu (by omega) (by omega)
            · skip
              have c253 := wt_nceq h251
              refine wt_T_if (fun h254 => ?_) (fun h254 => ?_)
              · skip
                have c255 := wt_cle h254
                unfold wp_md_tries_B151
                refine wt_T_gd (wt_ix (by omega) (by omega)) ?_
                obtain ⟨σ256, eσ256⟩ : ∃ z : wt_St, z = wt_sa z233.2 319 (Int32.toNatClampNeg x2) z233.1 := ⟨_, rfl⟩
                rw [← eσ256]
                have fσ256 := wt_fr_sa eσ256
                have vσ256 := wt_ceq (wt_v_sa eσ256)
                have bb257 := wt_tn x2
                have rσ256 := wt_RI_in l237 eσ256 16 rfl (by decide) (by decide) (show 0 ≤ (z233.1).toInt by omega) (show (z233.1).toInt ≤ 59 by omega)
                refine wt_T_bi (wq_md_priceOf n hn z233.1 σ256 rσ256 (by omega) (by omega)) (fun r258 h259 => ?_)
                have e260 := h259
                have bb261 := wt_bd r258.1
                rw [e260]
                have k266 : (1 : Int32).toInt = 1 := by decide
                have j267 := wt_i1 (c := x2) (by omega)
                have bb268 := wt_bd (wt_ga σ256 253 (Int32.toNatClampNeg x1))
                have g269 : 0 ≤ (wt_ga σ256 253 (Int32.toNatClampNeg x1)).toInt ∧ (wt_ga σ256 253 (Int32.toNatClampNeg x1)).toInt ≤ 12 := wt_R_ga rσ256 9 rfl 253 (by decide) (by decide) (Int32.toNatClampNeg x1)
                have tt270 : (wt_ga σ256 253 (Int32.toNatClampNeg x1)).toInt = (wt_ga z233.2 253 (Int32.toNatClampNeg x1)).toInt := congrArg Int32.toInt (fσ256.2 253 (by (try dsimp only); omega) (Int32.toNatClampNeg x1))
                have bb271 := wt_bd (wt_ga z233.2 253 (Int32.toNatClampNeg x1))
                have g272 : 0 ≤ (wt_ga z233.2 253 (Int32.toNatClampNeg x1)).toInt ∧ (wt_ga z233.2 253 (Int32.toNatClampNeg x1)).toInt ≤ 12 := wt_R_ga l237 9 rfl 253 (by decide) (by decide) (Int32.toNatClampNeg x1)
                have tt273 : (wt_ga z233.2 253 (Int32.toNatClampNeg x1)).toInt = (wt_ga σ 253 (Int32.toNatClampNeg x1)).toInt := congrArg Int32.toInt (l235.2 253 (by (try dsimp only); omega) (Int32.toNatClampNeg x1))
                refine wt_T_bi (hR (x1, x2 + (1 : Int32), x3, x4 + r258.1, σ256) rσ256 rfl (show 0 ≤ (x2 + (1 : Int32)).toInt by omega) (show (x2 + (1 : Int32)).toInt ≤ (wt_ga σ256 253 (Int32.toNatClampNeg x1)).toInt by omega) (show (12 - (x2 + (1 : Int32)).toInt).toNat < (12 - x2.toInt).toNat by omega)) (fun r262 h263 => ?_)
                obtain ⟨f264, ri265⟩ : wt_fr (fun i k => (i = 108 ∧ k = 60)) (fun i => i = 287 ∨ i = 318 ∨ i = 319) σ256 r262 ∧ wt_RI r262 := h263
                unfold wp_md_tries_B177
                have bb274 := wt_bd (wt_gf r262 108 28)
                have g275 : 0 ≤ (wt_gf r262 108 28).toInt ∧ (wt_gf r262 108 28).toInt ≤ 60 := wt_R_gf ri265 6 rfl
                have tt276 : (wt_gf r262 108 28).toInt = (wt_gf σ256 108 28).toInt := congrArg Int32.toInt (f264.1 108 28 (by (try dsimp only); omega))
                have bb277 := wt_bd (wt_gf σ256 108 28)
                have g278 : 0 ≤ (wt_gf σ256 108 28).toInt ∧ (wt_gf σ256 108 28).toInt ≤ 60 := wt_R_gf rσ256 6 rfl
                have tt279 : (wt_gf σ256 108 28).toInt = (wt_gf z233.2 108 28).toInt := congrArg Int32.toInt (fσ256.1 108 28 (fun z => z))
                refine hKK232 _ ⟨(wt_fr.tr (wt_fr.tr (wt_fr.tr wt_fr.rf l235 (fun i k h => by (try dsimp only at h); exact (by omega)) (fun i h => by (try dsimp only at h); rcases h with h | h | h; exact Or.inl (by omega); exact Or.inr (Or.inl (by omega)); exact Or.inr (Or.inr ((by omega))))) fσ256 (fun i k h => h.elim) (fun i h => by (try dsimp only at h); exact Or.inl (by omega))) f264 (fun i k h => by (try dsimp only at h); exact (by omega)) (fun i h => by (try dsimp only at h); rcases h with h | h | h; exact Or.inr (Or.inl (by omega)); exact Or.inr (Or.inr ((by omega))); exact Or.inl (by omega))), (wt_nn (B := wt_gf z233.2 108 28) (by omega) (by omega)), ri265⟩ ?_
                show ((wt_gf r262 108 28).toInt - (z233.1 + (1 : Int32)).toInt + 0).toNat < ((wt_gf z233.2 108 28).toInt - z233.1.toInt + 0).toNat
                exact wt_mu (by omega) (by omega)
              · skip
                have c280 := wt_ncle h254
                have k281 : (1 : Int32).toInt = 1 := by decide
                obtain ⟨j282, j282a, j282b⟩ := wt_subI x2 (1 : Int32)
                refine wt_T_gd (wt_ix (by omega) (by omega)) ?_
                have bb283 := wt_tn (x2 - (1 : Int32))
                have bb284 := wt_bd (wt_ga z233.2 319 (Int32.toNatClampNeg (x2 - (1 : Int32))))
                have g285 : 0 ≤ (wt_ga z233.2 319 (Int32.toNatClampNeg (x2 - (1 : Int32)))).toInt ∧ (wt_ga z233.2 319 (Int32.toNatClampNeg (x2 - (1 : Int32)))).toInt ≤ 59 := wt_R_ga l237 16 rfl 319 (by decide) (by decide) (Int32.toNatClampNeg (x2 - (1 : Int32)))
                refine wt_T_bi (wq_md_mayFollow n hn (wt_ga z233.2 319 (Int32.toNatClampNeg (x2 - (1 : Int32)))) z233.1 z233.2 l237 (by omega) (by omega) (by omega) (by omega)) (fun r286 h287 => ?_)
                have e288 := h287
                have bb289 := wt_bd r286.1
                rw [e288]
                refine wt_T_if (fun h290 => ?_) (fun h290 => ?_)
                · skip
                  have c291 := wt_ceq h290
                  unfold wp_md_tries_B177
                  refine hKK232 _ ⟨(wt_fr.tr wt_fr.rf l235 (fun i k h => by (try dsimp only at h); exact (by omega)) (fun i h => by (try dsimp only at h); rcases h with h | h | h; exact Or.inl (by omega); exact Or.inr (Or.inl (by omega)); exact Or.inr (Or.inr ((by omega))))), (wt_nn (B := wt_gf z233.2 108 28) (by omega) (by omega)), l237⟩ ?_
                  show ((wt_gf z233.2 108 28).toInt - (z233.1 + (1 : Int32)).toInt + 0).toNat < ((wt_gf z233.2 108 28).toInt - z233.1.toInt + 0).toNat
                  exact wt_mu (by omega) (by omega)
                · skip
                  have c292 := wt_nceq h290
                  unfold wp_md_tries_B151
                  refine wt_T_gd (wt_ix (by omega) (by omega)) ?_
                  obtain ⟨σ293, eσ293⟩ : ∃ z : wt_St, z = wt_sa z233.2 319 (Int32.toNatClampNeg x2) z233.1 := ⟨_, rfl⟩
                  rw [← eσ293]
                  have fσ293 := wt_fr_sa eσ293
                  have vσ293 := wt_ceq (wt_v_sa eσ293)
                  have bb294 := wt_tn x2
                  have rσ293 := wt_RI_in l237 eσ293 16 rfl (by decide) (by decide) (show 0 ≤ (z233.1).toInt by omega) (show (z233.1).toInt ≤ 59 by omega)
                  refine wt_T_bi (wq_md_priceOf n hn z233.1 σ293 rσ293 (by omega) (by omega)) (fun r295 h296 => ?_)
                  have e297 := h296
                  have bb298 := wt_bd r295.1
                  rw [e297]
                  have j303 := wt_i1 (c := x2) (by omega)
                  have bb304 := wt_bd (wt_ga σ293 253 (Int32.toNatClampNeg x1))
                  have g305 : 0 ≤ (wt_ga σ293 253 (Int32.toNatClampNeg x1)).toInt ∧ (wt_ga σ293 253 (Int32.toNatClampNeg x1)).toInt ≤ 12 := wt_R_ga rσ293 9 rfl 253 (by decide) (by decide) (Int32.toNatClampNeg x1)
                  have tt306 : (wt_ga σ293 253 (Int32.toNatClampNeg x1)).toInt = (wt_ga z233.2 253 (Int32.toNatClampNeg x1)).toInt := congrArg Int32.toInt (fσ293.2 253 (by (try dsimp only); omega) (Int32.toNatClampNeg x1))
                  have bb307 := wt_bd (wt_ga z233.2 253 (Int32.toNatClampNeg x1))
                  have g308 : 0 ≤ (wt_ga z233.2 253 (Int32.toNatClampNeg x1)).toInt ∧ (wt_ga z233.2 253 (Int32.toNatClampNeg x1)).toInt ≤ 12 := wt_R_ga l237 9 rfl 253 (by decide) (by decide) (Int32.toNatClampNeg x1)
                  have tt309 : (wt_ga z233.2 253 (Int32.toNatClampNeg x1)).toInt = (wt_ga σ 253 (Int32.toNatClampNeg x1)).toInt := congrArg Int32.toInt (l235.2 253 (by (try dsimp only); omega) (Int32.toNatClampNeg x1))
                  refine wt_T_bi (hR (x1, x2 + (1 : Int32), x3, x4 + r295.1, σ293) rσ293 rfl (show 0 ≤ (x2 + (1 : Int32)).toInt by omega) (show (x2 + (1 : Int32)).toInt ≤ (wt_ga σ293 253 (Int32.toNatClampNeg x1)).toInt by omega) (show (12 - (x2 + (1 : Int32)).toInt).toNat < (12 - x2.toInt).toNat by omega)) (fun r299 h300 => ?_)
                  obtain ⟨f301, ri302⟩ : wt_fr (fun i k => (i = 108 ∧ k = 60)) (fun i => i = 287 ∨ i = 318 ∨ i = 319) σ293 r299 ∧ wt_RI r299 := h300
                  unfold wp_md_tries_B177
                  have bb310 := wt_bd (wt_gf r299 108 28)
                  have g311 : 0 ≤ (wt_gf r299 108 28).toInt ∧ (wt_gf r299 108 28).toInt ≤ 60 := wt_R_gf ri302 6 rfl
                  have tt312 : (wt_gf r299 108 28).toInt = (wt_gf σ293 108 28).toInt := congrArg Int32.toInt (f301.1 108 28 (by (try dsimp only); omega))
                  have bb313 := wt_bd (wt_gf σ293 108 28)
                  have g314 : 0 ≤ (wt_gf σ293 108 28).toInt ∧ (wt_gf σ293 108 28).toInt ≤ 60 := wt_R_gf rσ293 6 rfl
                  have tt315 : (wt_gf σ293 108 28).toInt = (wt_gf z233.2 108 28).toInt := congrArg Int32.toInt (fσ293.1 108 28 (fun z => z))
                  refine hKK232 _ ⟨(wt_fr.tr (wt_fr.tr (wt_fr.tr wt_fr.rf l235 (fun i k h => by (try dsimp only at h); exact (by omega)) (fun i h => by (try dsimp only at h); rcases h with h | h | h; exact Or.inl (by omega); exact Or.inr (Or.inl (by omega)); exact Or.inr (Or.inr ((by omega))))) fσ293 (fun i k h => h.elim) (fun i h => by (try dsimp only at h); exact Or.inl (by omega))) f301 (fun i k h => by (try dsimp only at h); exact (by omega)) (fun i h => by (try dsimp only at h); rcases h with h | h | h; exact Or.inr (Or.inl (by omega)); exact Or.inr (Or.inr ((by omega))); exact Or.inl (by omega))), (wt_nn (B := wt_gf z233.2 108 28) (by omega) (by omega)), ri302⟩ ?_
                  show ((wt_gf r299 108 28).toInt - (z233.1 + (1 : Int32)).toInt + 0).toNat < ((wt_gf z233.2 108 28).toInt - z233.1.toInt + 0).toNat
                  exact wt_mu (by omega) (by omega)
        · skip
          have bb316 := wt_bd (wt_gf σ 108 28)
          have g317 : 0 ≤ (wt_gf σ 108 28).toInt ∧ (wt_gf σ 108 28).toInt ≤ 60 := wt_R_gf r0 6 rfl
          exact ⟨wt_fr.rf, (show 0 ≤ ((0 : Int32)).toInt by omega), r0⟩
        · skip
          have bb318 := wt_bd (wt_gf σ 108 28)
          have g319 : 0 ≤ (wt_gf σ 108 28).toInt ∧ (wt_gf σ 108 28).toInt ≤ 60 := wt_R_gf r0 6 rfl
          show ((wt_gf σ 108 28).toInt - (0 : Int32).toInt + 0).toNat < n
          omega
    · skip
      have c320 := wt_ncl h165
      refine wt_T_some ?_
      exact ⟨wt_fr.rf, r0⟩
set_option maxRecDepth 100000 in
theorem wq_md_tries (n : Nat) (hn : 4294967297 < n) (x1 : Int32) (x2 : Int32) (x3 : Int32) (x4 : Int32) (σ : wt_St) (r0 : wt_RI σ) (p0 : 0 ≤ x1.toInt) (p1 : x1.toInt ≤ 7) (p2 : 0 ≤ x2.toInt) (p3 : x2.toInt ≤ (wt_ga σ 253 (Int32.toNatClampNeg x1)).toInt) : wt_T (wp_md_tries n x1 x2 x3 x4 σ) (fun q => wt_fr (fun i k => (i = 108 ∧ k = 60)) (fun i => i = 287 ∨ i = 318 ∨ i = 319) σ q ∧ wt_RI q) := by
  unfold wp_md_tries
  refine wt_T_rec (fun z : Int32 × Int32 × Int32 × Int32 × wt_St => wt_RI z.2.2.2.2 ∧ z.1 = x1 ∧ 0 ≤ z.2.1.toInt ∧ z.2.1.toInt ≤ (wt_ga z.2.2.2.2 253 (Int32.toNatClampNeg x1)).toInt) (fun z : Int32 × Int32 × Int32 × Int32 × wt_St => (12 - z.2.1.toInt).toNat) (fun (z : Int32 × Int32 × Int32 × Int32 × wt_St) (q : wt_St) => wt_fr (fun i k => (i = 108 ∧ k = 60)) (fun i => i = 287 ∨ i = 318 ∨ i = 319) z.2.2.2.2 q ∧ wt_RI q) (fun R z hI hR => ?_) 16 _ ⟨r0, rfl, p2, p3⟩ (show (12 - x2.toInt).toNat < 16 by omega)
  obtain ⟨i1, i2, i3, i4⟩ := hI
  have hz : 0 ≤ z.1.toInt ∧ z.1.toInt ≤ 7 := by rw [i2]; exact ⟨p0, p1⟩
  exact wq_md_tries_b n hn R z.1 z.2.1 z.2.2.1 z.2.2.2.1 z.2.2.2.2 i1 hz.1 hz.2 i3 (by rw [i2]; exact i4) (fun w w1 w2 w3 w4 w5 => hR w ⟨w1, w2.trans i2, w3, by rw [← i2]; exact w4⟩ w5)
set_option maxRecDepth 100000 in
set_option maxHeartbeats 4000000 in
theorem wq_md_fitting (n : Nat) (hn : 4294967297 < n) (x1 : Int32) (x2 : Int32) (x3 : Int32) (x4 : Int32) (σ : wt_St) (r0 : wt_RI σ) : wt_T (wp_md_fitting n x1 x2 x3 x4 σ) (fun q => wt_fr (fun i k => (i = 108 ∧ k = 0) ∨ (i = 108 ∧ k = 60)) (fun i => i = 287 ∨ i = 318 ∨ i = 319) σ q.2 ∧ wt_RI q.2) := by
  have bb1 := wt_bd x1
  have bb2 := wt_bd x2
  have bb3 := wt_bd x3
  have bb4 := wt_bd x4
  unfold wp_md_fitting
  obtain ⟨σ5, eσ5⟩ : ∃ z : wt_St, z = wt_sf σ 108 0 (0 : Int32) := ⟨_, rfl⟩
  rw [← eσ5]
  have fσ5 := wt_fr_sf eσ5
  have vσ5 := wt_ceq (wt_v_sf eσ5)
  have k6 : (0 : Int32).toInt = 0 := by decide
  have rσ5 := wt_RI_fno r0 eσ5 (Or.inr (by decide))
  refine wt_T_bi (wq_md_isText n hn x1 σ5 rσ5) (fun r7 h8 => ?_)
  obtain ⟨e9, pp10⟩ := h8
  have bb11 := wt_bd r7.1
  rw [e9]
  have bb12 := wt_bd (wt_gf σ5 108 39)
  have g13 : 0 ≤ (wt_gf σ5 108 39).toInt ∧ (wt_gf σ5 108 39).toInt ≤ 8 := wt_R_gf rσ5 7 rfl
  have tt14 : (wt_gf σ5 108 39).toInt = (wt_gf σ 108 39).toInt := congrArg Int32.toInt (fσ5.1 108 39 (by (try dsimp only); omega))
  have bb15 := wt_bd (wt_gf σ 108 39)
  have g16 : 0 ≤ (wt_gf σ 108 39).toInt ∧ (wt_gf σ 108 39).toInt ≤ 8 := wt_R_gf r0 7 rfl
  refine wt_T_if (fun h17 => ?_) (fun h17 => ?_)
  · skip
    have c18 := wt_ceq h17
    unfold wp_md_fitting_B19
    have k19 : (1 : Int32).toInt = 1 := by decide
    refine wt_T_bi (wq_md_bad n hn (1 : Int32) (1 : Int32) σ5 rσ5 (by omega)) (fun r20 h21 => ?_)
    obtain ⟨f22, ri23, pp24⟩ := h21
    have bb25 := wt_bd r20.1
    have bb26 := wt_bd (wt_gf r20.2 108 0)
    have bb27 := wt_bd (wt_gf σ5 108 0)
    refine wt_T_if (fun h28 => ?_) (fun h28 => ?_)
    · skip
      have c29 := wt_ceq h28
      refine wt_T_bi (wq_md_isCopies n hn x2 r20.2 ri23) (fun r30 h31 => ?_)
      obtain ⟨e32, pp33⟩ := h31
      have bb34 := wt_bd r30.1
      rw [e32]
      refine wt_T_if (fun h35 => ?_) (fun h35 => ?_)
      · skip
        have c36 := wt_ceq h35
        unfold wp_md_fitting_B44
        unfold wp_md_fitting_B49
        have k37 : (2 : Int32).toInt = 2 := by decide
        refine wt_T_bi (wq_md_bad n hn (1 : Int32) (2 : Int32) r20.2 ri23 (by omega)) (fun r38 h39 => ?_)
        obtain ⟨f40, ri41, pp42⟩ := h39
        have bb43 := wt_bd r38.1
        have bb44 := wt_bd (wt_gf r38.2 108 0)
        refine wt_T_if (fun h45 => ?_) (fun h45 => ?_)
        · skip
          have c46 := wt_ceq h45
          refine wt_T_it (fun s : Int32 × Int32 × wt_St => s.2.2 = r38.2 ∧ 0 ≤ (s.2.1).toInt) (fun s : Int32 × Int32 × wt_St => ((wt_ga s.2.2 253 (Int32.toNatClampNeg x1)).toInt - s.2.1.toInt + 0).toNat) (fun KK47 z48 I49 hKK47 => ?_) _ _ ?_ ?_
          · skip
            obtain ⟨l50, l51⟩ := I49
            unfold wp_md_fitting_B64
            rw [l50]
            have bb52 := wt_tn x1
            have bb53 := wt_bd (wt_ga r38.2 253 (Int32.toNatClampNeg x1))
            have g54 : 0 ≤ (wt_ga r38.2 253 (Int32.toNatClampNeg x1)).toInt ∧ (wt_ga r38.2 253 (Int32.toNatClampNeg x1)).toInt ≤ 12 := wt_R_ga ri41 9 rfl 253 (by decide) (by decide) (Int32.toNatClampNeg x1)
            have tt55 : (wt_ga r38.2 253 (Int32.toNatClampNeg x1)).toInt = (wt_ga r20.2 253 (Int32.toNatClampNeg x1)).toInt := congrArg Int32.toInt (f40.2 253 (fun z => z) (Int32.toNatClampNeg x1))
            have bb56 := wt_bd (wt_ga r20.2 253 (Int32.toNatClampNeg x1))
            have g57 : 0 ≤ (wt_ga r20.2 253 (Int32.toNatClampNeg x1)).toInt ∧ (wt_ga r20.2 253 (Int32.toNatClampNeg x1)).toInt ≤ 12 := wt_R_ga ri23 9 rfl 253 (by decide) (by decide) (Int32.toNatClampNeg x1)
            have tt58 : (wt_ga r20.2 253 (Int32.toNatClampNeg x1)).toInt = (wt_ga σ5 253 (Int32.toNatClampNeg x1)).toInt := congrArg Int32.toInt (f22.2 253 (fun z => z) (Int32.toNatClampNeg x1))
            have bb59 := wt_bd (wt_ga σ5 253 (Int32.toNatClampNeg x1))
            have g60 : 0 ≤ (wt_ga σ5 253 (Int32.toNatClampNeg x1)).toInt ∧ (wt_ga σ5 253 (Int32.toNatClampNeg x1)).toInt ≤ 12 := wt_R_ga rσ5 9 rfl 253 (by decide) (by decide) (Int32.toNatClampNeg x1)
            have tt61 : (wt_ga σ5 253 (Int32.toNatClampNeg x1)).toInt = (wt_ga σ 253 (Int32.toNatClampNeg x1)).toInt := congrArg Int32.toInt (fσ5.2 253 (fun z => z) (Int32.toNatClampNeg x1))
            have bb62 := wt_bd (wt_ga σ 253 (Int32.toNatClampNeg x1))
            have g63 : 0 ≤ (wt_ga σ 253 (Int32.toNatClampNeg x1)).toInt ∧ (wt_ga σ 253 (Int32.toNatClampNeg x1)).toInt ≤ 12 := wt_R_ga r0 9 rfl 253 (by decide) (by decide) (Int32.toNatClampNeg x1)
            have bb64 := wt_bd z48.2.1
            refine wt_T_gd (wt_ix (by omega) (by omega)) ?_
            refine wt_T_if (fun h65 => ?_) (fun h65 => ?_)
            · skip
              have c66 := wt_cle h65
              have bb67 := wt_bd z48.1
              have k68 : (4096 : Int32).toInt = 4096 := by decide
              refine wt_T_if (fun h69 => ?_) (fun h69 => ?_)
              · skip
                have c70 := wt_cle h69
                obtain ⟨σ71, eσ71⟩ : ∃ z : wt_St, z = wt_sf r38.2 108 60 (-1 : Int32) := ⟨_, rfl⟩
                rw [← eσ71]
                have fσ71 := wt_fr_sf eσ71
                have vσ71 := wt_ceq (wt_v_sf eσ71)
                have rσ71 := wt_RI_fno ri41 eσ71 (Or.inr (by decide))
                have bb72 := wt_bd (wt_ga σ71 253 (Int32.toNatClampNeg x1))
                have g73 : 0 ≤ (wt_ga σ71 253 (Int32.toNatClampNeg x1)).toInt ∧ (wt_ga σ71 253 (Int32.toNatClampNeg x1)).toInt ≤ 12 := wt_R_ga rσ71 9 rfl 253 (by decide) (by decide) (Int32.toNatClampNeg x1)
                have tt74 : (wt_ga σ71 253 (Int32.toNatClampNeg x1)).toInt = (wt_ga r38.2 253 (Int32.toNatClampNeg x1)).toInt := congrArg Int32.toInt (fσ71.2 253 (fun z => z) (Int32.toNatClampNeg x1))
                refine wt_T_bi (wq_md_tries n hn x1 (0 : Int32) x2 (0 : Int32) σ71 rσ71 (by omega) (by omega) (by omega) (by omega)) (fun r75 h76 => ?_)
                obtain ⟨f77, ri78⟩ := h76
                refine wt_T_if (fun h79 => ?_) (fun h79 => ?_)
                · skip
                  have c80 := wt_ceq h79
                  unfold wp_md_fitting_B185
                  refine wt_T_some ?_
                  exact ⟨(wt_fr.tr (wt_fr.tr (wt_fr.tr (wt_fr.tr (wt_fr.tr wt_fr.rf fσ5 (fun i k h => by (try dsimp only at h); exact Or.inl (by omega)) (fun i h => h.elim)) f22 (fun i k h => by (try dsimp only at h); exact Or.inl (by omega)) (fun i h => h.elim)) f40 (fun i k h => by (try dsimp only at h); exact Or.inl (by omega)) (fun i h => h.elim)) fσ71 (fun i k h => by (try dsimp only at h); exact Or.inr ((by omega))) (fun i h => h.elim)) f77 (fun i k h => by (try dsimp only at h); exact Or.inr ((by omega))) (fun i h => by (try dsimp only at h); rcases h with h | h | h; exact Or.inl (by omega); exact Or.inr (Or.inl (by omega)); exact Or.inr (Or.inr ((by omega))))), ri78⟩
                · skip
                  have c81 := wt_nceq h79
                  have bb82 := wt_bd (wt_gf r75 108 60)
                  refine wt_T_if (fun h83 => ?_) (fun h83 => ?_)
                  · skip
                    have c84 := wt_ceq h83
                    rw [wt_lm1] at c84
                    unfold wp_md_fitting_B185
                    refine wt_T_some ?_
                    exact ⟨(wt_fr.tr (wt_fr.tr (wt_fr.tr (wt_fr.tr (wt_fr.tr wt_fr.rf fσ5 (fun i k h => by (try dsimp only at h); exact Or.inl (by omega)) (fun i h => h.elim)) f22 (fun i k h => by (try dsimp only at h); exact Or.inl (by omega)) (fun i h => h.elim)) f40 (fun i k h => by (try dsimp only at h); exact Or.inl (by omega)) (fun i h => h.elim)) fσ71 (fun i k h => by (try dsimp only at h); exact Or.inr ((by omega))) (fun i h => h.elim)) f77 (fun i k h => by (try dsimp only at h); exact Or.inr ((by omega))) (fun i h => by (try dsimp only at h); rcases h with h | h | h; exact Or.inl (by omega); exact Or.inr (Or.inl (by omega)); exact Or.inr (Or.inr ((by omega))))), ri78⟩
                  · skip
                    have c85 := wt_nceq h83
                    rw [wt_lm1] at c85
                    refine wt_T_gd (wt_ix (by omega) (by omega)) ?_
                    have bb86 := wt_bd (wt_ga r75 253 (Int32.toNatClampNeg x1))
                    have g87 : 0 ≤ (wt_ga r75 253 (Int32.toNatClampNeg x1)).toInt ∧ (wt_ga r75 253 (Int32.toNatClampNeg x1)).toInt ≤ 12 := wt_R_ga ri78 9 rfl 253 (by decide) (by decide) (Int32.toNatClampNeg x1)
                    have tt88 : (wt_ga r75 253 (Int32.toNatClampNeg x1)).toInt = (wt_ga σ71 253 (Int32.toNatClampNeg x1)).toInt := congrArg Int32.toInt (f77.2 253 (by (try dsimp only); omega) (Int32.toNatClampNeg x1))
                    obtain ⟨j89, j89a, j89b⟩ := wt_subI (wt_ga r75 253 (Int32.toNatClampNeg x1)) (1 : Int32)
                    refine wt_T_bi (wq_md_in n hn x3 (0 : Int32) ((wt_ga r75 253 (Int32.toNatClampNeg x1)) - (1 : Int32)) r75 ri78) (fun r90 h91 => ?_)
                    obtain ⟨e92, pp93⟩ := h91
                    have bb94 := wt_bd r90.1
                    rw [e92]
                    refine wt_T_if (fun h95 => ?_) (fun h95 => ?_)
                    · skip
                      have c96 := wt_ceq h95
                      refine wt_T_some ?_
                      exact ⟨(wt_fr.tr (wt_fr.tr (wt_fr.tr (wt_fr.tr (wt_fr.tr wt_fr.rf fσ5 (fun i k h => by (try dsimp only at h); exact Or.inl (by omega)) (fun i h => h.elim)) f22 (fun i k h => by (try dsimp only at h); exact Or.inl (by omega)) (fun i h => h.elim)) f40 (fun i k h => by (try dsimp only at h); exact Or.inl (by omega)) (fun i h => h.elim)) fσ71 (fun i k h => by (try dsimp only at h); exact Or.inr ((by omega))) (fun i h => h.elim)) f77 (fun i k h => by (try dsimp only at h); exact Or.inr ((by omega))) (fun i h => by (try dsimp only at h); rcases h with h | h | h; exact Or.inl (by omega); exact Or.inr (Or.inl (by omega)); exact Or.inr (Or.inr ((by omega))))), ri78⟩
                    · skip
                      have c97 := wt_nceq h95
                      refine wt_T_gd (wt_ix (by omega) (by omega)) ?_
                      refine wt_T_some ?_
                      exact ⟨(wt_fr.tr (wt_fr.tr (wt_fr.tr (wt_fr.tr (wt_fr.tr wt_fr.rf fσ5 (fun i k h => by (try dsimp only at h); exact Or.inl (by omega)) (fun i h => h.elim)) f22 (fun i k h => by (try dsimp only at h); exact Or.inl (by omega)) (fun i h => h.elim)) f40 (fun i k h => by (try dsimp only at h); exact Or.inl (by omega)) (fun i h => h.elim)) fσ71 (fun i k h => by (try dsimp only at h); exact Or.inr ((by omega))) (fun i h => h.elim)) f77 (fun i k h => by (try dsimp only at h); exact Or.inr ((by omega))) (fun i h => by (try dsimp only at h); rcases h with h | h | h; exact Or.inl (by omega); exact Or.inr (Or.inl (by omega)); exact Or.inr (Or.inr ((by omega))))), ri78⟩
              · skip
                have c98 := wt_ncle h69
                refine wt_T_some ?_
                exact ⟨(wt_fr.tr (wt_fr.tr (wt_fr.tr wt_fr.rf fσ5 (fun i k h => by (try dsimp only at h); exact Or.inl (by omega)) (fun i h => h.elim)) f22 (fun i k h => by (try dsimp only at h); exact Or.inl (by omega)) (fun i h => h.elim)) f40 (fun i k h => by (try dsimp only at h); exact Or.inl (by omega)) (fun i h => h.elim)), ri41⟩
            · skip
              have c99 := wt_ncle h65
              refine wt_T_it (fun s : Int32 × Int32 × wt_St => s.2.2 = r38.2 ∧ 0 ≤ (s.2.1).toInt) (fun s : Int32 × Int32 × wt_St => ((wt_gf s.2.2 108 28).toInt - s.2.1.toInt + 0).toNat) (fun KK100 z101 I102 hKK100 => ?_) _ _ ?_ ?_
              · skip
                obtain ⟨l103, l104⟩ := I102
                unfold wp_md_fitting_B81
                rw [l103]
                have bb105 := wt_bd (wt_gf r38.2 108 28)
                have g106 : 0 ≤ (wt_gf r38.2 108 28).toInt ∧ (wt_gf r38.2 108 28).toInt ≤ 60 := wt_R_gf ri41 6 rfl
                have tt107 : (wt_gf r38.2 108 28).toInt = (wt_gf r20.2 108 28).toInt := congrArg Int32.toInt (f40.1 108 28 (by (try dsimp only); omega))
                have bb108 := wt_bd (wt_gf r20.2 108 28)
                have g109 : 0 ≤ (wt_gf r20.2 108 28).toInt ∧ (wt_gf r20.2 108 28).toInt ≤ 60 := wt_R_gf ri23 6 rfl
                have tt110 : (wt_gf r20.2 108 28).toInt = (wt_gf σ5 108 28).toInt := congrArg Int32.toInt (f22.1 108 28 (by (try dsimp only); omega))
                have bb111 := wt_bd (wt_gf σ5 108 28)
                have g112 : 0 ≤ (wt_gf σ5 108 28).toInt ∧ (wt_gf σ5 108 28).toInt ≤ 60 := wt_R_gf rσ5 6 rfl
                have tt113 : (wt_gf σ5 108 28).toInt = (wt_gf σ 108 28).toInt := congrArg Int32.toInt (fσ5.1 108 28 (by (try dsimp only); omega))
                have bb114 := wt_bd (wt_gf σ 108 28)
                have g115 : 0 ≤ (wt_gf σ 108 28).toInt ∧ (wt_gf σ 108 28).toInt ≤ 60 := wt_R_gf r0 6 rfl
                have bb116 := wt_bd z101.2.1
                refine wt_T_if (fun h117 => ?_) (fun h117 => ?_)
                · skip
                  have c118 := wt_cle h117
                  have bb119 := wt_bd z48.1
                  have bb120 := wt_bd z101.1
                  obtain ⟨j121, j121a, j121b⟩ := wt_mulI z48.1 z101.1
                  have k122 : (4096 : Int32).toInt = 4096 := by decide
                  refine wt_T_if (fun h123 => ?_) (fun h123 => ?_)
                  · skip
                    have c124 := wt_cle h123
                    unfold wp_md_fitting_B140
                    refine hKK47 _ ⟨rfl, (wt_nn (B := wt_ga z48.2.2 253 (Int32.toNatClampNeg x1)) (by omega) (by first | (rw [l50]; omega) | (rw [l50]; done) | omega))⟩ ?_
                    show ((wt_ga r38.2 253 (Int32.toNatClampNeg x1)).toInt - (z48.2.1 + (1 : Int32)).toInt + 0).toNat < ((wt_ga z48.2.2 253 (Int32.toNatClampNeg x1)).toInt - z48.2.1.toInt + 0).toNat
                    exact wt_mu (by first | (rw [l50]; omega) | (rw [l50]; done) | omega) (by first | (rw [l50]; omega) | (rw [l50]; done) | omega)
                  · skip
                    have c125 := wt_ncle h123
                    unfold wp_md_fitting_B140
                    have k126 : (5000 : Int32).toInt = 5000 := by decide
                    refine hKK47 _ ⟨rfl, (wt_nn (B := wt_ga z48.2.2 253 (Int32.toNatClampNeg x1)) (by omega) (by first | (rw [l50]; omega) | (rw [l50]; done) | omega))⟩ ?_
                    show ((wt_ga r38.2 253 (Int32.toNatClampNeg x1)).toInt - (z48.2.1 + (1 : Int32)).toInt + 0).toNat < ((wt_ga z48.2.2 253 (Int32.toNatClampNeg x1)).toInt - z48.2.1.toInt + 0).toNat
                    exact wt_mu (by first | (rw [l50]; omega) | (rw [l50]; done) | omega) (by first | (rw [l50]; omega) | (rw [l50]; done) | omega)
                · skip
                  have c127 := wt_ncle h117
                  refine wt_T_bi (wq_md_isOf n hn z101.2.1 x1 z48.2.1 r38.2 ri41 (by omega) (by omega) (by omega) (by omega) (by omega) (by omega)) (fun r128 h129 => ?_)
                  have e130 := h129
                  have bb131 := wt_bd r128.1
                  rw [e130]
                  refine wt_T_if (fun h132 => ?_) (fun h132 => ?_)
                  · skip
                    have c133 := wt_ceq h132
                    unfold wp_md_fitting_B109
                    have bb134 := wt_bd z101.1
                    obtain ⟨j135, j135a, j135b⟩ := wt_addI z101.1 (0 : Int32)
                    refine hKK100 _ ⟨rfl, (wt_nn (B := wt_gf z101.2.2 108 28) (by omega) (by first | (rw [l103]; omega) | (rw [l103]; done) | omega))⟩ ?_
                    show ((wt_gf r38.2 108 28).toInt - (z101.2.1 + (1 : Int32)).toInt + 0).toNat < ((wt_gf z101.2.2 108 28).toInt - z101.2.1.toInt + 0).toNat
                    exact wt_mu (by first | (rw [l103]; omega) | (rw [l103]; done) | omega) (by first | (rw [l103]; omega) | (rw [l103]; done) | omega)
                  · skip
                    have c136 := wt_nceq h132
                    unfold wp_md_fitting_B109
                    have bb137 := wt_bd z101.1
                    obtain ⟨j138, j138a, j138b⟩ := wt_addI z101.1 (1 : Int32)
                    refine hKK100 _ ⟨rfl, (wt_nn (B := wt_gf z101.2.2 108 28) (by omega) (by first | (rw [l103]; omega) | (rw [l103]; done) | omega))⟩ ?_
                    show ((wt_gf r38.2 108 28).toInt - (z101.2.1 + (1 : Int32)).toInt + 0).toNat < ((wt_gf z101.2.2 108 28).toInt - z101.2.1.toInt + 0).toNat
                    exact wt_mu (by first | (rw [l103]; omega) | (rw [l103]; done) | omega) (by first | (rw [l103]; omega) | (rw [l103]; done) | omega)
              · skip
                have bb139 := wt_bd (wt_gf r38.2 108 28)
                have g140 : 0 ≤ (wt_gf r38.2 108 28).toInt ∧ (wt_gf r38.2 108 28).toInt ≤ 60 := wt_R_gf ri41 6 rfl
                have tt141 : (wt_gf r38.2 108 28).toInt = (wt_gf r20.2 108 28).toInt := congrArg Int32.toInt (f40.1 108 28 (by (try dsimp only); omega))
                have bb142 := wt_bd (wt_gf r20.2 108 28)
                have g143 : 0 ≤ (wt_gf r20.2 108 28).toInt ∧ (wt_gf r20.2 108 28).toInt ≤ 60 := wt_R_gf ri23 6 rfl
                have tt144 : (wt_gf r20.2 108 28).toInt = (wt_gf σ5 108 28).toInt := congrArg Int32.toInt (f22.1 108 28 (by (try dsimp only); omega))
                have bb145 := wt_bd (wt_gf σ5 108 28)
                have g146 : 0 ≤ (wt_gf σ5 108 28).toInt ∧ (wt_gf σ5 108 28).toInt ≤ 60 := wt_R_gf rσ5 6 rfl
                have tt147 : (wt_gf σ5 108 28).toInt = (wt_gf σ 108 28).toInt := congrArg Int32.toInt (fσ5.1 108 28 (by (try dsimp only); omega))
                have bb148 := wt_bd (wt_gf σ 108 28)
                have g149 : 0 ≤ (wt_gf σ 108 28).toInt ∧ (wt_gf σ 108 28).toInt ≤ 60 := wt_R_gf r0 6 rfl
                exact ⟨rfl, (show 0 ≤ ((0 : Int32)).toInt by omega)⟩
              · skip
                have bb150 := wt_bd (wt_gf r38.2 108 28)
                have g151 : 0 ≤ (wt_gf r38.2 108 28).toInt ∧ (wt_gf r38.2 108 28).toInt ≤ 60 := wt_R_gf ri41 6 rfl
                have tt152 : (wt_gf r38.2 108 28).toInt = (wt_gf r20.2 108 28).toInt := congrArg Int32.toInt (f40.1 108 28 (by (try dsimp only); omega))
                have bb153 := wt_bd (wt_gf r20.2 108 28)
                have g154 : 0 ≤ (wt_gf r20.2 108 28).toInt ∧ (wt_gf r20.2 108 28).toInt ≤ 60 := wt_R_gf ri23 6 rfl
                have tt155 : (wt_gf r20.2 108 28).toInt = (wt_gf σ5 108 28).toInt := congrArg Int32.toInt (f22.1 108 28 (by (try dsimp only); omega))
                have bb156 := wt_bd (wt_gf σ5 108 28)
                have g157 : 0 ≤ (wt_gf σ5 108 28).toInt ∧ (wt_gf σ5 108 28).toInt ≤ 60 := wt_R_gf rσ5 6 rfl
                have tt158 : (wt_gf σ5 108 28).toInt = (wt_gf σ 108 28).toInt := congrArg Int32.toInt (fσ5.1 108 28 (by (try dsimp only); omega))
                have bb159 := wt_bd (wt_gf σ 108 28)
                have g160 : 0 ≤ (wt_gf σ 108 28).toInt ∧ (wt_gf σ 108 28).toInt ≤ 60 := wt_R_gf r0 6 rfl
                show ((wt_gf r38.2 108 28).toInt - (0 : Int32).toInt + 0).toNat < n
                omega
          · skip
            have bb161 := wt_tn x1
            have bb162 := wt_bd (wt_ga r38.2 253 (Int32.toNatClampNeg x1))
            have g163 : 0 ≤ (wt_ga r38.2 253 (Int32.toNatClampNeg x1)).toInt ∧ (wt_ga r38.2 253 (Int32.toNatClampNeg x1)).toInt ≤ 12 := wt_R_ga ri41 9 rfl 253 (by decide) (by decide) (Int32.toNatClampNeg x1)
            have tt164 : (wt_ga r38.2 253 (Int32.toNatClampNeg x1)).toInt = (wt_ga r20.2 253 (Int32.toNatClampNeg x1)).toInt := congrArg Int32.toInt (f40.2 253 (fun z => z) (Int32.toNatClampNeg x1))
            have bb165 := wt_bd (wt_ga r20.2 253 (Int32.toNatClampNeg x1))
            have g166 : 0 ≤ (wt_ga r20.2 253 (Int32.toNatClampNeg x1)).toInt ∧ (wt_ga r20.2 253 (Int32.toNatClampNeg x1)).toInt ≤ 12 := wt_R_ga ri23 9 rfl 253 (by decide) (by decide) (Int32.toNatClampNeg x1)
            have tt167 : (wt_ga r20.2 253 (Int32.toNatClampNeg x1)).toInt = (wt_ga σ5 253 (Int32.toNatClampNeg x1)).toInt := congrArg Int32.toInt (f22.2 253 (fun z => z) (Int32.toNatClampNeg x1))
            have bb168 := wt_bd (wt_ga σ5 253 (Int32.toNatClampNeg x1))
            have g169 : 0 ≤ (wt_ga σ5 253 (Int32.toNatClampNeg x1)).toInt ∧ (wt_ga σ5 253 (Int32.toNatClampNeg x1)).toInt ≤ 12 := wt_R_ga rσ5 9 rfl 253 (by decide) (by decide) (Int32.toNatClampNeg x1)
            have tt170 : (wt_ga σ5 253 (Int32.toNatClampNeg x1)).toInt = (wt_ga σ 253 (Int32.toNatClampNeg x1)).toInt := congrArg Int32.toInt (fσ5.2 253 (fun z => z) (Int32.toNatClampNeg x1))
            have bb171 := wt_bd (wt_ga σ 253 (Int32.toNatClampNeg x1))
            have g172 : 0 ≤ (wt_ga σ 253 (Int32.toNatClampNeg x1)).toInt ∧ (wt_ga σ 253 (Int32.toNatClampNeg x1)).toInt ≤ 12 := wt_R_ga r0 9 rfl 253 (by decide) (by decide) (Int32.toNatClampNeg x1)
            exact ⟨rfl, (show 0 ≤ ((0 : Int32)).toInt by omega)⟩
          · skip
            have bb173 := wt_tn x1
            have bb174 := wt_bd (wt_ga r38.2 253 (Int32.toNatClampNeg x1))
            have g175 : 0 ≤ (wt_ga r38.2 253 (Int32.toNatClampNeg x1)).toInt ∧ (wt_ga r38.2 253 (Int32.toNatClampNeg x1)).toInt ≤ 12 := wt_R_ga ri41 9 rfl 253 (by decide) (by decide) (Int32.toNatClampNeg x1)
            have tt176 : (wt_ga r38.2 253 (Int32.toNatClampNeg x1)).toInt = (wt_ga r20.2 253 (Int32.toNatClampNeg x1)).toInt := congrArg Int32.toInt (f40.2 253 (fun z => z) (Int32.toNatClampNeg x1))
            have bb177 := wt_bd (wt_ga r20.2 253 (Int32.toNatClampNeg x1))
            have g178 : 0 ≤ (wt_ga r20.2 253 (Int32.toNatClampNeg x1)).toInt ∧ (wt_ga r20.2 253 (Int32.toNatClampNeg x1)).toInt ≤ 12 := wt_R_ga ri23 9 rfl 253 (by decide) (by decide) (Int32.toNatClampNeg x1)
            have tt179 : (wt_ga r20.2 253 (Int32.toNatClampNeg x1)).toInt = (wt_ga σ5 253 (Int32.toNatClampNeg x1)).toInt := congrArg Int32.toInt (f22.2 253 (fun z => z) (Int32.toNatClampNeg x1))
            have bb180 := wt_bd (wt_ga σ5 253 (Int32.toNatClampNeg x1))
            have g181 : 0 ≤ (wt_ga σ5 253 (Int32.toNatClampNeg x1)).toInt ∧ (wt_ga σ5 253 (Int32.toNatClampNeg x1)).toInt ≤ 12 := wt_R_ga rσ5 9 rfl 253 (by decide) (by decide) (Int32.toNatClampNeg x1)
            have tt182 : (wt_ga σ5 253 (Int32.toNatClampNeg x1)).toInt = (wt_ga σ 253 (Int32.toNatClampNeg x1)).toInt := congrArg Int32.toInt (fσ5.2 253 (fun z => z) (Int32.toNatClampNeg x1))
            have bb183 := wt_bd (wt_ga σ 253 (Int32.toNatClampNeg x1))
            have g184 : 0 ≤ (wt_ga σ 253 (Int32.toNatClampNeg x1)).toInt ∧ (wt_ga σ 253 (Int32.toNatClampNeg x1)).toInt ≤ 12 := wt_R_ga r0 9 rfl 253 (by decide) (by decide) (Int32.toNatClampNeg x1)
            show ((wt_ga r38.2 253 (Int32.toNatClampNeg x1)).toInt - (0 : Int32).toInt + 0).toNat < n
            omega
        · skip
          have c185 := wt_nceq h45
          refine wt_T_some ?_
          exact ⟨(wt_fr.tr (wt_fr.tr (wt_fr.tr wt_fr.rf fσ5 (fun i k h => by (try dsimp only at h); exact Or.inl (by omega)) (fun i h => h.elim)) f22 (fun i k h => by (try dsimp only at h); exact Or.inl (by omega)) (fun i h => h.elim)) f40 (fun i k h => by (try dsimp only at h); exact Or.inl (by omega)) (fun i h => h.elim)), ri41⟩
      · skip
        have c186 := wt_nceq h35
        refine wt_T_bi (wq_md_in n hn x4 (0 : Int32) (1 : Int32) r20.2 ri23) (fun r187 h188 => ?_)
        obtain ⟨e189, pp190⟩ := h188
        have bb191 := wt_bd r187.1
        rw [e189]
        refine wt_T_if (fun h192 => ?_) (fun h192 => ?_)
        · skip
          have c193 := wt_ceq h192
          unfold wp_md_fitting_B44
          unfold wp_md_fitting_B49
          have k194 : (2 : Int32).toInt = 2 := by decide
          refine wt_T_bi (wq_md_bad n hn (1 : Int32) (2 : Int32) r20.2 ri23 (by omega)) (fun r195 h196 => ?_)
          obtain ⟨f197, ri198, pp199⟩ := h196
          have bb200 := wt_bd r195.1
          have bb201 := wt_bd (wt_gf r195.2 108 0)
          refine wt_T_if (fun h202 => ?_) (fun h202 => ?_)
          · skip
            have c203 := wt_ceq h202
            refine wt_T_it (fun s : Int32 × Int32 × wt_St => s.2.2 = r195.2 ∧ 0 ≤ (s.2.1).toInt) (fun s : Int32 × Int32 × wt_St => ((wt_ga s.2.2 253 (Int32.toNatClampNeg x1)).toInt - s.2.1.toInt + 0).toNat) (fun KK204 z205 I206 hKK204 => ?_) _ _ ?_ ?_
            · skip
              obtain ⟨l207, l208⟩ := I206
              unfold wp_md_fitting_B64
              rw [l207]
              have bb209 := wt_tn x1
              have bb210 := wt_bd (wt_ga r195.2 253 (Int32.toNatClampNeg x1))
              have g211 : 0 ≤ (wt_ga r195.2 253 (Int32.toNatClampNeg x1)).toInt ∧ (wt_ga r195.2 253 (Int32.toNatClampNeg x1)).toInt ≤ 12 := wt_R_ga ri198 9 rfl 253 (by decide) (by decide) (Int32.toNatClampNeg x1)
              have tt212 : (wt_ga r195.2 253 (Int32.toNatClampNeg x1)).toInt = (wt_ga r20.2 253 (Int32.toNatClampNeg x1)).toInt := congrArg Int32.toInt (f197.2 253 (fun z => z) (Int32.toNatClampNeg x1))
              have bb213 := wt_bd (wt_ga r20.2 253 (Int32.toNatClampNeg x1))
              have g214 : 0 ≤ (wt_ga r20.2 253 (Int32.toNatClampNeg x1)).toInt ∧ (wt_ga r20.2 253 (Int32.toNatClampNeg x1)).toInt ≤ 12 := wt_R_ga ri23 9 rfl 253 (by decide) (by decide) (Int32.toNatClampNeg x1)
              have tt215 : (wt_ga r20.2 253 (Int32.toNatClampNeg x1)).toInt = (wt_ga σ5 253 (Int32.toNatClampNeg x1)).toInt := congrArg Int32.toInt (f22.2 253 (fun z => z) (Int32.toNatClampNeg x1))
              have bb216 := wt_bd (wt_ga σ5 253 (Int32.toNatClampNeg x1))
              have g217 : 0 ≤ (wt_ga σ5 253 (Int32.toNatClampNeg x1)).toInt ∧ (wt_ga σ5 253 (Int32.toNatClampNeg x1)).toInt ≤ 12 := wt_R_ga rσ5 9 rfl 253 (by decide) (by decide) (Int32.toNatClampNeg x1)
              have tt218 : (wt_ga σ5 253 (Int32.toNatClampNeg x1)).toInt = (wt_ga σ 253 (Int32.toNatClampNeg x1)).toInt := congrArg Int32.toInt (fσ5.2 253 (fun z => z) (Int32.toNatClampNeg x1))
              have bb219 := wt_bd (wt_ga σ 253 (Int32.toNatClampNeg x1))
              have g220 : 0 ≤ (wt_ga σ 253 (Int32.toNatClampNeg x1)).toInt ∧ (wt_ga σ 253 (Int32.toNatClampNeg x1)).toInt ≤ 12 := wt_R_ga r0 9 rfl 253 (by decide) (by decide) (Int32.toNatClampNeg x1)
              have bb221 := wt_bd z205.2.1
              refine wt_T_gd (wt_ix (by omega) (by omega)) ?_
              refine wt_T_if (fun h222 => ?_) (fun h222 => ?_)
              · skip
                have c223 := wt_cle h222
                have bb224 := wt_bd z205.1
                have k225 : (4096 : Int32).toInt = 4096 := by decide
                refine wt_T_if (fun h226 => ?_) (fun h226 => ?_)
                · skip
                  have c227 := wt_cle h226
                  obtain ⟨σ228, eσ228⟩ : ∃ z : wt_St, z = wt_sf r195.2 108 60 (-1 : Int32) := ⟨_, rfl⟩
                  rw [← eσ228]
                  have fσ228 := wt_fr_sf eσ228
                  have vσ228 := wt_ceq (wt_v_sf eσ228)
                  have rσ228 := wt_RI_fno ri198 eσ228 (Or.inr (by decide))
                  have bb229 := wt_bd (wt_ga σ228 253 (Int32.toNatClampNeg x1))
                  have g230 : 0 ≤ (wt_ga σ228 253 (Int32.toNatClampNeg x1)).toInt ∧ (wt_ga σ228 253 (Int32.toNatClampNeg x1)).toInt ≤ 12 := wt_R_ga rσ228 9 rfl 253 (by decide) (by decide) (Int32.toNatClampNeg x1)
                  have tt231 : (wt_ga σ228 253 (Int32.toNatClampNeg x1)).toInt = (wt_ga r195.2 253 (Int32.toNatClampNeg x1)).toInt := congrArg Int32.toInt (fσ228.2 253 (fun z => z) (Int32.toNatClampNeg x1))
                  refine wt_T_bi (wq_md_tries n hn x1 (0 : Int32) x2 (0 : Int32) σ228 rσ228 (by omega) (by omega) (by omega) (by omega)) (fun r232 h233 => ?_)
                  obtain ⟨f234, ri235⟩ := h233
                  refine wt_T_if (fun h236 => ?_) (fun h236 => ?_)
                  · skip
                    have c237 := wt_ceq h236
                    unfold wp_md_fitting_B185
                    refine wt_T_some ?_
                    exact ⟨(wt_fr.tr (wt_fr.tr (wt_fr.tr (wt_fr.tr (wt_fr.tr wt_fr.rf fσ5 (fun i k h => by (try dsimp only at h); exact Or.inl (by omega)) (fun i h => h.elim)) f22 (fun i k h => by (try dsimp only at h); exact Or.inl (by omega)) (fun i h => h.elim)) f197 (fun i k h => by (try dsimp only at h); exact Or.inl (by omega)) (fun i h => h.elim)) fσ228 (fun i k h => by (try dsimp only at h); exact Or.inr ((by omega))) (fun i h => h.elim)) f234 (fun i k h => by (try dsimp only at h); exact Or.inr ((by omega))) (fun i h => by (try dsimp only at h); rcases h with h | h | h; exact Or.inl (by omega); exact Or.inr (Or.inl (by omega)); exact Or.inr (Or.inr ((by omega))))), ri235⟩
                  · skip
                    have c238 := wt_nceq h236
                    have bb239 := wt_bd (wt_gf r232 108 60)
                    refine wt_T_if (fun h240 => ?_) (fun h240 => ?_)
                    · skip
                      have c241 := wt_ceq h240
                      rw [wt_lm1] at c241
                      unfold wp_md_fitting_B185
                      refine wt_T_some ?_
                      exact ⟨(wt_fr.tr (wt_fr.tr (wt_fr.tr (wt_fr.tr (wt_fr.tr wt_fr.rf fσ5 (fun i k h => by (try dsimp only at h); exact Or.inl (by omega)) (fun i h => h.elim)) f22 (fun i k h => by (try dsimp only at h); exact Or.inl (by omega)) (fun i h => h.elim)) f197 (fun i k h => by (try dsimp only at h); exact Or.inl (by omega)) (fun i h => h.elim)) fσ228 (fun i k h => by (try dsimp only at h); exact Or.inr ((by omega))) (fun i h => h.elim)) f234 (fun i k h => by (try dsimp only at h); exact Or.inr ((by omega))) (fun i h => by (try dsimp only at h); rcases h with h | h | h; exact Or.inl (by omega); exact Or.inr (Or.inl (by omega)); exact Or.inr (Or.inr ((by omega))))), ri235⟩
                    · skip
                      have c242 := wt_nceq h240
                      rw [wt_lm1] at c242
                      refine wt_T_gd (wt_ix (by omega) (by omega)) ?_
                      have bb243 := wt_bd (wt_ga r232 253 (Int32.toNatClampNeg x1))
                      have g244 : 0 ≤ (wt_ga r232 253 (Int32.toNatClampNeg x1)).toInt ∧ (wt_ga r232 253 (Int32.toNatClampNeg x1)).toInt ≤ 12 := wt_R_ga ri235 9 rfl 253 (by decide) (by decide) (Int32.toNatClampNeg x1)
                      have tt245 : (wt_ga r232 253 (Int32.toNatClampNeg x1)).toInt = (wt_ga σ228 253 (Int32.toNatClampNeg x1)).toInt := congrArg Int32.toInt (f234.2 253 (by (try dsimp only); omega) (Int32.toNatClampNeg x1))
                      obtain ⟨j246, j246a, j246b⟩ := wt_subI (wt_ga r232 253 (Int32.toNatClampNeg x1)) (1 : Int32)
                      refine wt_T_bi (wq_md_in n hn x3 (0 : Int32) ((wt_ga r232 253 (Int32.toNatClampNeg x1)) - (1 : Int32)) r232 ri235) (fun r247 h248 => ?_)
                      obtain ⟨e249, pp250⟩ := h248
                      have bb251 := wt_bd r247.1
                      rw [e249]
                      refine wt_T_if (fun h252 => ?_) (fun h252 => ?_)
                      · skip
                        have c253 := wt_ceq h252
                        refine wt_T_some ?_
                        exact ⟨(wt_fr.tr (wt_fr.tr (wt_fr.tr (wt_fr.tr (wt_fr.tr wt_fr.rf fσ5 (fun i k h => by (try dsimp only at h); exact Or.inl (by omega)) (fun i h => h.elim)) f22 (fun i k h => by (try dsimp only at h); exact Or.inl (by omega)) (fun i h => h.elim)) f197 (fun i k h => by (try dsimp only at h); exact Or.inl (by omega)) (fun i h => h.elim)) fσ228 (fun i k h => by (try dsimp only at h); exact Or.inr ((by omega))) (fun i h => h.elim)) f234 (fun i k h => by (try dsimp only at h); exact Or.inr ((by omega))) (fun i h => by (try dsimp only at h); rcases h with h | h | h; exact Or.inl (by omega); exact Or.inr (Or.inl (by omega)); exact Or.inr (Or.inr ((by omega))))), ri235⟩
                      · skip
                        have c254 := wt_nceq h252
                        refine wt_T_gd (wt_ix (by omega) (by omega)) ?_
                        refine wt_T_some ?_
                        exact ⟨(wt_fr.tr (wt_fr.tr (wt_fr.tr (wt_fr.tr (wt_fr.tr wt_fr.rf fσ5 (fun i k h => by (try dsimp only at h); exact Or.inl (by omega)) (fun i h => h.elim)) f22 (fun i k h => by (try dsimp only at h); exact Or.inl (by omega)) (fun i h => h.elim)) f197 (fun i k h => by (try dsimp only at h); exact Or.inl (by omega)) (fun i h => h.elim)) fσ228 (fun i k h => by (try dsimp only at h); exact Or.inr ((by omega))) (fun i h => h.elim)) f234 (fun i k h => by (try dsimp only at h); exact Or.inr ((by omega))) (fun i h => by (try dsimp only at h); rcases h with h | h | h; exact Or.inl (by omega); exact Or.inr (Or.inl (by omega)); exact Or.inr (Or.inr ((by omega))))), ri235⟩
                · skip
                  have c255 := wt_ncle h226
                  refine wt_T_some ?_
                  exact ⟨(wt_fr.tr (wt_fr.tr (wt_fr.tr wt_fr.rf fσ5 (fun i k h => by (try dsimp only at h); exact Or.inl (by omega)) (fun i h => h.elim)) f22 (fun i k h => by (try dsimp only at h); exact Or.inl (by omega)) (fun i h => h.elim)) f197 (fun i k h => by (try dsimp only at h); exact Or.inl (by omega)) (fun i h => h.elim)), ri198⟩
              · skip
                have c256 := wt_ncle h222
                refine wt_T_it (fun s : Int32 × Int32 × wt_St => s.2.2 = r195.2 ∧ 0 ≤ (s.2.1).toInt) (fun s : Int32 × Int32 × wt_St => ((wt_gf s.2.2 108 28).toInt - s.2.1.toInt + 0).toNat) (fun KK257 z258 I259 hKK257 => ?_) _ _ ?_ ?_
                · skip
                  obtain ⟨l260, l261⟩ := I259
                  unfold wp_md_fitting_B81
                  rw [l260]
                  have bb262 := wt_bd (wt_gf r195.2 108 28)
                  have g263 : 0 ≤ (wt_gf r195.2 108 28).toInt ∧ (wt_gf r195.2 108 28).toInt ≤ 60 := wt_R_gf ri198 6 rfl
                  have tt264 : (wt_gf r195.2 108 28).toInt = (wt_gf r20.2 108 28).toInt := congrArg Int32.toInt (f197.1 108 28 (by (try dsimp only); omega))
                  have bb265 := wt_bd (wt_gf r20.2 108 28)
                  have g266 : 0 ≤ (wt_gf r20.2 108 28).toInt ∧ (wt_gf r20.2 108 28).toInt ≤ 60 := wt_R_gf ri23 6 rfl
                  have tt267 : (wt_gf r20.2 108 28).toInt = (wt_gf σ5 108 28).toInt := congrArg Int32.toInt (f22.1 108 28 (by (try dsimp only); omega))
                  have bb268 := wt_bd (wt_gf σ5 108 28)
                  have g269 : 0 ≤ (wt_gf σ5 108 28).toInt ∧ (wt_gf σ5 108 28).toInt ≤ 60 := wt_R_gf rσ5 6 rfl
                  have tt270 : (wt_gf σ5 108 28).toInt = (wt_gf σ 108 28).toInt := congrArg Int32.toInt (fσ5.1 108 28 (by (try dsimp only); omega))
                  have bb271 := wt_bd (wt_gf σ 108 28)
                  have g272 : 0 ≤ (wt_gf σ 108 28).toInt ∧ (wt_gf σ 108 28).toInt ≤ 60 := wt_R_gf r0 6 rfl
                  have bb273 := wt_bd z258.2.1
                  refine wt_T_if (fun h274 => ?_) (fun h274 => ?_)
                  · skip
                    have c275 := wt_cle h274
                    have bb276 := wt_bd z205.1
                    have bb277 := wt_bd z258.1
                    obtain ⟨j278, j278a, j278b⟩ := wt_mulI z205.1 z258.1
                    have k279 : (4096 : Int32).toInt = 4096 := by decide
                    refine wt_T_if (fun h280 => ?_) (fun h280 => ?_)
                    · skip
                      have c281 := wt_cle h280
                      unfold wp_md_fitting_B140
                      refine hKK204 _ ⟨rfl, (wt_nn (B := wt_ga z205.2.2 253 (Int32.toNatClampNeg x1)) (by omega) (by first | (rw [l207]; omega) | (rw [l207]; done) | omega))⟩ ?_
                      show ((wt_ga r195.2 253 (Int32.toNatClampNeg x1)).toInt - (z205.2.1 + (1 : Int32)).toInt + 0).toNat < ((wt_ga z205.2.2 253 (Int32.toNatClampNeg x1)).toInt - z205.2.1.toInt + 0).toNat
                      exact wt_mu (by first | (rw [l207]; omega) | (rw [l207]; done) | omega) (by first | (rw [l207]; omega) | (rw [l207]; done) | omega)
                    · skip
                      have c282 := wt_ncle h280
                      unfold wp_md_fitting_B140
                      have k283 : (5000 : Int32).toInt = 5000 := by decide
                      refine hKK204 _ ⟨rfl, (wt_nn (B := wt_ga z205.2.2 253 (Int32.toNatClampNeg x1)) (by omega) (by first | (rw [l207]; omega) | (rw [l207]; done) | omega))⟩ ?_
                      show ((wt_ga r195.2 253 (Int32.toNatClampNeg x1)).toInt - (z205.2.1 + (1 : Int32)).toInt + 0).toNat < ((wt_ga z205.2.2 253 (Int32.toNatClampNeg x1)).toInt - z205.2.1.toInt + 0).toNat
                      exact wt_mu (by first | (rw [l207]; omega) | (rw [l207]; done) | omega) (by first | (rw [l207]; omega) | (rw [l207]; done) | omega)
                  · skip
                    have c284 := wt_ncle h274
                    refine wt_T_bi (wq_md_isOf n hn z258.2.1 x1 z205.2.1 r195.2 ri198 (by omega) (by omega) (by omega) (by omega) (by omega) (by omega)) (fun r285 h286 => ?_)
                    have e287 := h286
                    have bb288 := wt_bd r285.1
                    rw [e287]
                    refine wt_T_if (fun h289 => ?_) (fun h289 => ?_)
                    · skip
                      have c290 := wt_ceq h289
                      unfold wp_md_fitting_B109
                      have bb291 := wt_bd z258.1
                      obtain ⟨j292, j292a, j292b⟩ := wt_addI z258.1 (0 : Int32)
                      refine hKK257 _ ⟨rfl, (wt_nn (B := wt_gf z258.2.2 108 28) (by omega) (by first | (rw [l260]; omega) | (rw [l260]; done) | omega))⟩ ?_
                      show ((wt_gf r195.2 108 28).toInt - (z258.2.1 + (1 : Int32)).toInt + 0).toNat < ((wt_gf z258.2.2 108 28).toInt - z258.2.1.toInt + 0).toNat
                      exact wt_mu (by first | (rw [l260]; omega) | (rw [l260]; done) | omega) (by first | (rw [l260]; omega) | (rw [l260]; done) | omega)
                    · skip
                      have c293 := wt_nceq h289
                      unfold wp_md_fitting_B109
                      have bb294 := wt_bd z258.1
                      obtain ⟨j295, j295a, j295b⟩ := wt_addI z258.1 (1 : Int32)
                      refine hKK257 _ ⟨rfl, (wt_nn (B := wt_gf z258.2.2 108 28) (by omega) (by first | (rw [l260]; omega) | (rw [l260]; done) | omega))⟩ ?_
                      show ((wt_gf r195.2 108 28).toInt - (z258.2.1 + (1 : Int32)).toInt + 0).toNat < ((wt_gf z258.2.2 108 28).toInt - z258.2.1.toInt + 0).toNat
                      exact wt_mu (by first | (rw [l260]; omega) | (rw [l260]; done) | omega) (by first | (rw [l260]; omega) | (rw [l260]; done) | omega)
                · skip
                  have bb296 := wt_bd (wt_gf r195.2 108 28)
                  have g297 : 0 ≤ (wt_gf r195.2 108 28).toInt ∧ (wt_gf r195.2 108 28).toInt ≤ 60 := wt_R_gf ri198 6 rfl
                  have tt298 : (wt_gf r195.2 108 28).toInt = (wt_gf r20.2 108 28).toInt := congrArg Int32.toInt (f197.1 108 28 (by (try dsimp only); omega))
                  have bb299 := wt_bd (wt_gf r20.2 108 28)
                  have g300 : 0 ≤ (wt_gf r20.2 108 28).toInt ∧ (wt_gf r20.2 108 28).toInt ≤ 60 := wt_R_gf ri23 6 rfl
                  have tt301 : (wt_gf r20.2 108 28).toInt = (wt_gf σ5 108 28).toInt := congrArg Int32.toInt (f22.1 108 28 (by (try dsimp only); omega))
                  have bb302 := wt_bd (wt_gf σ5 108 28)
                  have g303 : 0 ≤ (wt_gf σ5 108 28).toInt ∧ (wt_gf σ5 108 28).toInt ≤ 60 := wt_R_gf rσ5 6 rfl
                  have tt304 : (wt_gf σ5 108 28).toInt = (wt_gf σ 108 28).toInt := congrArg Int32.toInt (fσ5.1 108 28 (by (try dsimp only); omega))
                  have bb305 := wt_bd (wt_gf σ 108 28)
                  have g306 : 0 ≤ (wt_gf σ 108 28).toInt ∧ (wt_gf σ 108 28).toInt ≤ 60 := wt_R_gf r0 6 rfl
                  exact ⟨rfl, (show 0 ≤ ((0 : Int32)).toInt by omega)⟩
                · skip
                  have bb307 := wt_bd (wt_gf r195.2 108 28)
                  have g308 : 0 ≤ (wt_gf r195.2 108 28).toInt ∧ (wt_gf r195.2 108 28).toInt ≤ 60 := wt_R_gf ri198 6 rfl
                  have tt309 : (wt_gf r195.2 108 28).toInt = (wt_gf r20.2 108 28).toInt := congrArg Int32.toInt (f197.1 108 28 (by (try dsimp only); omega))
                  have bb310 := wt_bd (wt_gf r20.2 108 28)
                  have g311 : 0 ≤ (wt_gf r20.2 108 28).toInt ∧ (wt_gf r20.2 108 28).toInt ≤ 60 := wt_R_gf ri23 6 rfl
                  have tt312 : (wt_gf r20.2 108 28).toInt = (wt_gf σ5 108 28).toInt := congrArg Int32.toInt (f22.1 108 28 (by (try dsimp only); omega))
                  have bb313 := wt_bd (wt_gf σ5 108 28)
                  have g314 : 0 ≤ (wt_gf σ5 108 28).toInt ∧ (wt_gf σ5 108 28).toInt ≤ 60 := wt_R_gf rσ5 6 rfl
                  have tt315 : (wt_gf σ5 108 28).toInt = (wt_gf σ 108 28).toInt := congrArg Int32.toInt (fσ5.1 108 28 (by (try dsimp only); omega))
                  have bb316 := wt_bd (wt_gf σ 108 28)
                  have g317 : 0 ≤ (wt_gf σ 108 28).toInt ∧ (wt_gf σ 108 28).toInt ≤ 60 := wt_R_gf r0 6 rfl
                  show ((wt_gf r195.2 108 28).toInt - (0 : Int32).toInt + 0).toNat < n
                  omega
            · skip
              have bb318 := wt_tn x1
              have bb319 := wt_bd (wt_ga r195.2 253 (Int32.toNatClampNeg x1))
              have g320 : 0 ≤ (wt_ga r195.2 253 (Int32.toNatClampNeg x1)).toInt ∧ (wt_ga r195.2 253 (Int32.toNatClampNeg x1)).toInt ≤ 12 := wt_R_ga ri198 9 rfl 253 (by decide) (by decide) (Int32.toNatClampNeg x1)
              have tt321 : (wt_ga r195.2 253 (Int32.toNatClampNeg x1)).toInt = (wt_ga r20.2 253 (Int32.toNatClampNeg x1)).toInt := congrArg Int32.toInt (f197.2 253 (fun z => z) (Int32.toNatClampNeg x1))
              have bb322 := wt_bd (wt_ga r20.2 253 (Int32.toNatClampNeg x1))
              have g323 : 0 ≤ (wt_ga r20.2 253 (Int32.toNatClampNeg x1)).toInt ∧ (wt_ga r20.2 253 (Int32.toNatClampNeg x1)).toInt ≤ 12 := wt_R_ga ri23 9 rfl 253 (by decide) (by decide) (Int32.toNatClampNeg x1)
              have tt324 : (wt_ga r20.2 253 (Int32.toNatClampNeg x1)).toInt = (wt_ga σ5 253 (Int32.toNatClampNeg x1)).toInt := congrArg Int32.toInt (f22.2 253 (fun z => z) (Int32.toNatClampNeg x1))
              have bb325 := wt_bd (wt_ga σ5 253 (Int32.toNatClampNeg x1))
              have g326 : 0 ≤ (wt_ga σ5 253 (Int32.toNatClampNeg x1)).toInt ∧ (wt_ga σ5 253 (Int32.toNatClampNeg x1)).toInt ≤ 12 := wt_R_ga rσ5 9 rfl 253 (by decide) (by decide) (Int32.toNatClampNeg x1)
              have tt327 : (wt_ga σ5 253 (Int32.toNatClampNeg x1)).toInt = (wt_ga σ 253 (Int32.toNatClampNeg x1)).toInt := congrArg Int32.toInt (fσ5.2 253 (fun z => z) (Int32.toNatClampNeg x1))
              have bb328 := wt_bd (wt_ga σ 253 (Int32.toNatClampNeg x1))
              have g329 : 0 ≤ (wt_ga σ 253 (Int32.toNatClampNeg x1)).toInt ∧ (wt_ga σ 253 (Int32.toNatClampNeg x1)).toInt ≤ 12 := wt_R_ga r0 9 rfl 253 (by decide) (by decide) (Int32.toNatClampNeg x1)
              exact ⟨rfl, (show 0 ≤ ((0 : Int32)).toInt by omega)⟩
            · skip
              have bb330 := wt_tn x1
              have bb331 := wt_bd (wt_ga r195.2 253 (Int32.toNatClampNeg x1))
              have g332 : 0 ≤ (wt_ga r195.2 253 (Int32.toNatClampNeg x1)).toInt ∧ (wt_ga r195.2 253 (Int32.toNatClampNeg x1)).toInt ≤ 12 := wt_R_ga ri198 9 rfl 253 (by decide) (by decide) (Int32.toNatClampNeg x1)
              have tt333 : (wt_ga r195.2 253 (Int32.toNatClampNeg x1)).toInt = (wt_ga r20.2 253 (Int32.toNatClampNeg x1)).toInt := congrArg Int32.toInt (f197.2 253 (fun z => z) (Int32.toNatClampNeg x1))
              have bb334 := wt_bd (wt_ga r20.2 253 (Int32.toNatClampNeg x1))
              have g335 : 0 ≤ (wt_ga r20.2 253 (Int32.toNatClampNeg x1)).toInt ∧ (wt_ga r20.2 253 (Int32.toNatClampNeg x1)).toInt ≤ 12 := wt_R_ga ri23 9 rfl 253 (by decide) (by decide) (Int32.toNatClampNeg x1)
              have tt336 : (wt_ga r20.2 253 (Int32.toNatClampNeg x1)).toInt = (wt_ga σ5 253 (Int32.toNatClampNeg x1)).toInt := congrArg Int32.toInt (f22.2 253 (fun z => z) (Int32.toNatClampNeg x1))
              have bb337 := wt_bd (wt_ga σ5 253 (Int32.toNatClampNeg x1))
              have g338 : 0 ≤ (wt_ga σ5 253 (Int32.toNatClampNeg x1)).toInt ∧ (wt_ga σ5 253 (Int32.toNatClampNeg x1)).toInt ≤ 12 := wt_R_ga rσ5 9 rfl 253 (by decide) (by decide) (Int32.toNatClampNeg x1)
              have tt339 : (wt_ga σ5 253 (Int32.toNatClampNeg x1)).toInt = (wt_ga σ 253 (Int32.toNatClampNeg x1)).toInt := congrArg Int32.toInt (fσ5.2 253 (fun z => z) (Int32.toNatClampNeg x1))
              have bb340 := wt_bd (wt_ga σ 253 (Int32.toNatClampNeg x1))
              have g341 : 0 ≤ (wt_ga σ 253 (Int32.toNatClampNeg x1)).toInt ∧ (wt_ga σ 253 (Int32.toNatClampNeg x1)).toInt ≤ 12 := wt_R_ga r0 9 rfl 253 (by decide) (by decide) (Int32.toNatClampNeg x1)
              show ((wt_ga r195.2 253 (Int32.toNatClampNeg x1)).toInt - (0 : Int32).toInt + 0).toNat < n
              omega
          · skip
            have c342 := wt_nceq h202
            refine wt_T_some ?_
            exact ⟨(wt_fr.tr (wt_fr.tr (wt_fr.tr wt_fr.rf fσ5 (fun i k h => by (try dsimp only at h); exact Or.inl (by omega)) (fun i h => h.elim)) f22 (fun i k h => by (try dsimp only at h); exact Or.inl (by omega)) (fun i h => h.elim)) f197 (fun i k h => by (try dsimp only at h); exact Or.inl (by omega)) (fun i h => h.elim)), ri198⟩
        · skip
          have c343 := wt_nceq h192
          unfold wp_md_fitting_B49
          have k344 : (2 : Int32).toInt = 2 := by decide
          refine wt_T_bi (wq_md_bad n hn (0 : Int32) (2 : Int32) r20.2 ri23 (by omega)) (fun r345 h346 => ?_)
          obtain ⟨f347, ri348, pp349⟩ := h346
          have bb350 := wt_bd r345.1
          have bb351 := wt_bd (wt_gf r345.2 108 0)
          refine wt_T_if (fun h352 => ?_) (fun h352 => ?_)
          · skip
            have c353 := wt_ceq h352
            refine wt_T_it (fun s : Int32 × Int32 × wt_St => s.2.2 = r345.2 ∧ 0 ≤ (s.2.1).toInt) (fun s : Int32 × Int32 × wt_St => ((wt_ga s.2.2 253 (Int32.toNatClampNeg x1)).toInt - s.2.1.toInt + 0).toNat) (fun KK354 z355 I356 hKK354 => ?_) _ _ ?_ ?_
            · skip
              obtain ⟨l357, l358⟩ := I356
              unfold wp_md_fitting_B64
              rw [l357]
              have bb359 := wt_tn x1
              have bb360 := wt_bd (wt_ga r345.2 253 (Int32.toNatClampNeg x1))
              have g361 : 0 ≤ (wt_ga r345.2 253 (Int32.toNatClampNeg x1)).toInt ∧ (wt_ga r345.2 253 (Int32.toNatClampNeg x1)).toInt ≤ 12 := wt_R_ga ri348 9 rfl 253 (by decide) (by decide) (Int32.toNatClampNeg x1)
              have tt362 : (wt_ga r345.2 253 (Int32.toNatClampNeg x1)).toInt = (wt_ga r20.2 253 (Int32.toNatClampNeg x1)).toInt := congrArg Int32.toInt (f347.2 253 (fun z => z) (Int32.toNatClampNeg x1))
              have bb363 := wt_bd (wt_ga r20.2 253 (Int32.toNatClampNeg x1))
              have g364 : 0 ≤ (wt_ga r20.2 253 (Int32.toNatClampNeg x1)).toInt ∧ (wt_ga r20.2 253 (Int32.toNatClampNeg x1)).toInt ≤ 12 := wt_R_ga ri23 9 rfl 253 (by decide) (by decide) (Int32.toNatClampNeg x1)
              have tt365 : (wt_ga r20.2 253 (Int32.toNatClampNeg x1)).toInt = (wt_ga σ5 253 (Int32.toNatClampNeg x1)).toInt := congrArg Int32.toInt (f22.2 253 (fun z => z) (Int32.toNatClampNeg x1))
              have bb366 := wt_bd (wt_ga σ5 253 (Int32.toNatClampNeg x1))
              have g367 : 0 ≤ (wt_ga σ5 253 (Int32.toNatClampNeg x1)).toInt ∧ (wt_ga σ5 253 (Int32.toNatClampNeg x1)).toInt ≤ 12 := wt_R_ga rσ5 9 rfl 253 (by decide) (by decide) (Int32.toNatClampNeg x1)
              have tt368 : (wt_ga σ5 253 (Int32.toNatClampNeg x1)).toInt = (wt_ga σ 253 (Int32.toNatClampNeg x1)).toInt := congrArg Int32.toInt (fσ5.2 253 (fun z => z) (Int32.toNatClampNeg x1))
              have bb369 := wt_bd (wt_ga σ 253 (Int32.toNatClampNeg x1))
              have g370 : 0 ≤ (wt_ga σ 253 (Int32.toNatClampNeg x1)).toInt ∧ (wt_ga σ 253 (Int32.toNatClampNeg x1)).toInt ≤ 12 := wt_R_ga r0 9 rfl 253 (by decide) (by decide) (Int32.toNatClampNeg x1)
              have bb371 := wt_bd z355.2.1
              refine wt_T_gd (wt_ix (by omega) (by omega)) ?_
              refine wt_T_if (fun h372 => ?_) (fun h372 => ?_)
              · skip
                have c373 := wt_cle h372
                have bb374 := wt_bd z355.1
                have k375 : (4096 : Int32).toInt = 4096 := by decide
                refine wt_T_if (fun h376 => ?_) (fun h376 => ?_)
                · skip
                  have c377 := wt_cle h376
                  obtain ⟨σ378, eσ378⟩ : ∃ z : wt_St, z = wt_sf r345.2 108 60 (-1 : Int32) := ⟨_, rfl⟩
                  rw [← eσ378]
                  have fσ378 := wt_fr_sf eσ378
                  have vσ378 := wt_ceq (wt_v_sf eσ378)
                  have rσ378 := wt_RI_fno ri348 eσ378 (Or.inr (by decide))
                  have bb379 := wt_bd (wt_ga σ378 253 (Int32.toNatClampNeg x1))
                  have g380 : 0 ≤ (wt_ga σ378 253 (Int32.toNatClampNeg x1)).toInt ∧ (wt_ga σ378 253 (Int32.toNatClampNeg x1)).toInt ≤ 12 := wt_R_ga rσ378 9 rfl 253 (by decide) (by decide) (Int32.toNatClampNeg x1)
                  have tt381 : (wt_ga σ378 253 (Int32.toNatClampNeg x1)).toInt = (wt_ga r345.2 253 (Int32.toNatClampNeg x1)).toInt := congrArg Int32.toInt (fσ378.2 253 (fun z => z) (Int32.toNatClampNeg x1))
                  refine wt_T_bi (wq_md_tries n hn x1 (0 : Int32) x2 (0 : Int32) σ378 rσ378 (by omega) (by omega) (by omega) (by omega)) (fun r382 h383 => ?_)
                  obtain ⟨f384, ri385⟩ := h383
                  refine wt_T_if (fun h386 => ?_) (fun h386 => ?_)
                  · skip
                    have c387 := wt_ceq h386
                    unfold wp_md_fitting_B185
                    refine wt_T_some ?_
                    exact ⟨(wt_fr.tr (wt_fr.tr (wt_fr.tr (wt_fr.tr (wt_fr.tr wt_fr.rf fσ5 (fun i k h => by (try dsimp only at h); exact Or.inl (by omega)) (fun i h => h.elim)) f22 (fun i k h => by (try dsimp only at h); exact Or.inl (by omega)) (fun i h => h.elim)) f347 (fun i k h => by (try dsimp only at h); exact Or.inl (by omega)) (fun i h => h.elim)) fσ378 (fun i k h => by (try dsimp only at h); exact Or.inr ((by omega))) (fun i h => h.elim)) f384 (fun i k h => by (try dsimp only at h); exact Or.inr ((by omega))) (fun i h => by (try dsimp only at h); rcases h with h | h | h; exact Or.inl (by omega); exact Or.inr (Or.inl (by omega)); exact Or.inr (Or.inr ((by omega))))), ri385⟩
                  · skip
                    have c388 := wt_nceq h386
                    have bb389 := wt_bd (wt_gf r382 108 60)
                    refine wt_T_if (fun h390 => ?_) (fun h390 => ?_)
                    · skip
                      have c391 := wt_ceq h390
                      rw [wt_lm1] at c391
                      unfold wp_md_fitting_B185
                      refine wt_T_some ?_
                      exact ⟨(wt_fr.tr (wt_fr.tr (wt_fr.tr (wt_fr.tr (wt_fr.tr wt_fr.rf fσ5 (fun i k h => by (try dsimp only at h); exact Or.inl (by omega)) (fun i h => h.elim)) f22 (fun i k h => by (try dsimp only at h); exact Or.inl (by omega)) (fun i h => h.elim)) f347 (fun i k h => by (try dsimp only at h); exact Or.inl (by omega)) (fun i h => h.elim)) fσ378 (fun i k h => by (try dsimp only at h); exact Or.inr ((by omega))) (fun i h => h.elim)) f384 (fun i k h => by (try dsimp only at h); exact Or.inr ((by omega))) (fun i h => by (try dsimp only at h); rcases h with h | h | h; exact Or.inl (by omega); exact Or.inr (Or.inl (by omega)); exact Or.inr (Or.inr ((by omega))))), ri385⟩
                    · skip
                      have c392 := wt_nceq h390
                      rw [wt_lm1] at c392
                      refine wt_T_gd (wt_ix (by omega) (by omega)) ?_
                      have bb393 := wt_bd (wt_ga r382 253 (Int32.toNatClampNeg x1))
                      have g394 : 0 ≤ (wt_ga r382 253 (Int32.toNatClampNeg x1)).toInt ∧ (wt_ga r382 253 (Int32.toNatClampNeg x1)).toInt ≤ 12 := wt_R_ga ri385 9 rfl 253 (by decide) (by decide) (Int32.toNatClampNeg x1)
                      have tt395 : (wt_ga r382 253 (Int32.toNatClampNeg x1)).toInt = (wt_ga σ378 253 (Int32.toNatClampNeg x1)).toInt := congrArg Int32.toInt (f384.2 253 (by (try dsimp only); omega) (Int32.toNatClampNeg x1))
                      obtain ⟨j396, j396a, j396b⟩ := wt_subI (wt_ga r382 253 (Int32.toNatClampNeg x1)) (1 : Int32)
                      refine wt_T_bi (wq_md_in n hn x3 (0 : Int32) ((wt_ga r382 253 (Int32.toNatClampNeg x1)) - (1 : Int32)) r382 ri385) (fun r397 h398 => ?_)
                      obtain ⟨e399, pp400⟩ := h398
                      have bb401 := wt_bd r397.1
                      rw [e399]
                      refine wt_T_if (fun h402 => ?_) (fun h402 => ?_)
                      · skip
                        have c403 := wt_ceq h402
                        refine wt_T_some ?_
                        exact ⟨(wt_fr.tr (wt_fr.tr (wt_fr.tr (wt_fr.tr (wt_fr.tr wt_fr.rf fσ5 (fun i k h => by (try dsimp only at h); exact Or.inl (by omega)) (fun i h => h.elim)) f22 (fun i k h => by (try dsimp only at h); exact Or.inl (by omega)) (fun i h => h.elim)) f347 (fun i k h => by (try dsimp only at h); exact Or.inl (by omega)) (fun i h => h.elim)) fσ378 (fun i k h => by (try dsimp only at h); exact Or.inr ((by omega))) (fun i h => h.elim)) f384 (fun i k h => by (try dsimp only at h); exact Or.inr ((by omega))) (fun i h => by (try dsimp only at h); rcases h with h | h | h; exact Or.inl (by omega); exact Or.inr (Or.inl (by omega)); exact Or.inr (Or.inr ((by omega))))), ri385⟩
                      · skip
                        have c404 := wt_nceq h402
                        refine wt_T_gd (wt_ix (by omega) (by omega)) ?_
                        refine wt_T_some ?_
                        exact ⟨(wt_fr.tr (wt_fr.tr (wt_fr.tr (wt_fr.tr (wt_fr.tr wt_fr.rf fσ5 (fun i k h => by (try dsimp only at h); exact Or.inl (by omega)) (fun i h => h.elim)) f22 (fun i k h => by (try dsimp only at h); exact Or.inl (by omega)) (fun i h => h.elim)) f347 (fun i k h => by (try dsimp only at h); exact Or.inl (by omega)) (fun i h => h.elim)) fσ378 (fun i k h => by (try dsimp only at h); exact Or.inr ((by omega))) (fun i h => h.elim)) f384 (fun i k h => by (try dsimp only at h); exact Or.inr ((by omega))) (fun i h => by (try dsimp only at h); rcases h with h | h | h; exact Or.inl (by omega); exact Or.inr (Or.inl (by omega)); exact Or.inr (Or.inr ((by omega))))), ri385⟩
                · skip
                  have c405 := wt_ncle h376
                  refine wt_T_some ?_
                  exact ⟨(wt_fr.tr (wt_fr.tr (wt_fr.tr wt_fr.rf fσ5 (fun i k h => by (try dsimp only at h); exact Or.inl (by omega)) (fun i h => h.elim)) f22 (fun i k h => by (try dsimp only at h); exact Or.inl (by omega)) (fun i h => h.elim)) f347 (fun i k h => by (try dsimp only at h); exact Or.inl (by omega)) (fun i h => h.elim)), ri348⟩
              · skip
                have c406 := wt_ncle h372
                refine wt_T_it (fun s : Int32 × Int32 × wt_St => s.2.2 = r345.2 ∧ 0 ≤ (s.2.1).toInt) (fun s : Int32 × Int32 × wt_St => ((wt_gf s.2.2 108 28).toInt - s.2.1.toInt + 0).toNat) (fun KK407 z408 I409 hKK407 => ?_) _ _ ?_ ?_
                · skip
                  obtain ⟨l410, l411⟩ := I409
                  unfold wp_md_fitting_B81
                  rw [l410]
                  have bb412 := wt_bd (wt_gf r345.2 108 28)
                  have g413 : 0 ≤ (wt_gf r345.2 108 28).toInt ∧ (wt_gf r345.2 108 28).toInt ≤ 60 := wt_R_gf ri348 6 rfl
                  have tt414 : (wt_gf r345.2 108 28).toInt = (wt_gf r20.2 108 28).toInt := congrArg Int32.toInt (f347.1 108 28 (by (try dsimp only); omega))
                  have bb415 := wt_bd (wt_gf r20.2 108 28)
                  have g416 : 0 ≤ (wt_gf r20.2 108 28).toInt ∧ (wt_gf r20.2 108 28).toInt ≤ 60 := wt_R_gf ri23 6 rfl
                  have tt417 : (wt_gf r20.2 108 28).toInt = (wt_gf σ5 108 28).toInt := congrArg Int32.toInt (f22.1 108 28 (by (try dsimp only); omega))
                  have bb418 := wt_bd (wt_gf σ5 108 28)
                  have g419 : 0 ≤ (wt_gf σ5 108 28).toInt ∧ (wt_gf σ5 108 28).toInt ≤ 60 := wt_R_gf rσ5 6 rfl
                  have tt420 : (wt_gf σ5 108 28).toInt = (wt_gf σ 108 28).toInt := congrArg Int32.toInt (fσ5.1 108 28 (by (try dsimp only); omega))
                  have bb421 := wt_bd (wt_gf σ 108 28)
                  have g422 : 0 ≤ (wt_gf σ 108 28).toInt ∧ (wt_gf σ 108 28).toInt ≤ 60 := wt_R_gf r0 6 rfl
                  have bb423 := wt_bd z408.2.1
                  refine wt_T_if (fun h424 => ?_) (fun h424 => ?_)
                  · skip
                    have c425 := wt_cle h424
                    have bb426 := wt_bd z355.1
                    have bb427 := wt_bd z408.1
                    obtain ⟨j428, j428a, j428b⟩ := wt_mulI z355.1 z408.1
                    have k429 : (4096 : Int32).toInt = 4096 := by decide
                    refine wt_T_if (fun h430 => ?_) (fun h430 => ?_)
                    · skip
                      have c431 := wt_cle h430
                      unfold wp_md_fitting_B140
                      refine hKK354 _ ⟨rfl, (wt_nn (B := wt_ga z355.2.2 253 (Int32.toNatClampNeg x1)) (by omega) (by first | (rw [l357]; omega) | (rw [l357]; done) | omega))⟩ ?_
                      show ((wt_ga r345.2 253 (Int32.toNatClampNeg x1)).toInt - (z355.2.1 + (1 : Int32)).toInt + 0).toNat < ((wt_ga z355.2.2 253 (Int32.toNatClampNeg x1)).toInt - z355.2.1.toInt + 0).toNat
                      exact wt_mu (by first | (rw [l357]; omega) | (rw [l357]; done) | omega) (by first | (rw [l357]; omega) | (rw [l357]; done) | omega)
                    · skip
                      have c432 := wt_ncle h430
                      unfold wp_md_fitting_B140
                      have k433 : (5000 : Int32).toInt = 5000 := by decide
                      refine hKK354 _ ⟨rfl, (wt_nn (B := wt_ga z355.2.2 253 (Int32.toNatClampNeg x1)) (by omega) (by first | (rw [l357]; omega) | (rw [l357]; done) | omega))⟩ ?_
                      show ((wt_ga r345.2 253 (Int32.toNatClampNeg x1)).toInt - (z355.2.1 + (1 : Int32)).toInt + 0).toNat < ((wt_ga z355.2.2 253 (Int32.toNatClampNeg x1)).toInt - z355.2.1.toInt + 0).toNat
                      exact wt_mu (by first | (rw [l357]; omega) | (rw [l357]; done) | omega) (by first | (rw [l357]; omega) | (rw [l357]; done) | omega)
                  · skip
                    have c434 := wt_ncle h424
                    refine wt_T_bi (wq_md_isOf n hn z408.2.1 x1 z355.2.1 r345.2 ri348 (by omega) (by omega) (by omega) (by omega) (by omega) (by omega)) (fun r435 h436 => ?_)
                    have e437 := h436
                    have bb438 := wt_bd r435.1
                    rw [e437]
                    refine wt_T_if (fun h439 => ?_) (fun h439 => ?_)
                    · skip
                      have c440 := wt_ceq h439
                      unfold wp_md_fitting_B109
                      have bb441 := wt_bd z408.1
                      obtain ⟨j442, j442a, j442b⟩ := wt_addI z408.1 (0 : Int32)
                      refine hKK407 _ ⟨rfl, (wt_nn (B := wt_gf z408.2.2 108 28) (by omega) (by first | (rw [l410]; omega) | (rw [l410]; done) | omega))⟩ ?_
                      show ((wt_gf r345.2 108 28).toInt - (z408.2.1 + (1 : Int32)).toInt + 0).toNat < ((wt_gf z408.2.2 108 28).toInt - z408.2.1.toInt + 0).toNat
                      exact wt_mu (by first | (rw [l410]; omega) | (rw [l410]; done) | omega) (by first | (rw [l410]; omega) | (rw [l410]; done) | omega)
                    · skip
                      have c443 := wt_nceq h439
                      unfold wp_md_fitting_B109
                      have bb444 := wt_bd z408.1
                      obtain ⟨j445, j445a, j445b⟩ := wt_addI z408.1 (1 : Int32)
                      refine hKK407 _ ⟨rfl, (wt_nn (B := wt_gf z408.2.2 108 28) (by omega) (by first | (rw [l410]; omega) | (rw [l410]; done) | omega))⟩ ?_
                      show ((wt_gf r345.2 108 28).toInt - (z408.2.1 + (1 : Int32)).toInt + 0).toNat < ((wt_gf z408.2.2 108 28).toInt - z408.2.1.toInt + 0).toNat
                      exact wt_mu (by first | (rw [l410]; omega) | (rw [l410]; done) | omega) (by first | (rw [l410]; omega) | (rw [l410]; done) | omega)
                · skip
                  have bb446 := wt_bd (wt_gf r345.2 108 28)
                  have g447 : 0 ≤ (wt_gf r345.2 108 28).toInt ∧ (wt_gf r345.2 108 28).toInt ≤ 60 := wt_R_gf ri348 6 rfl
                  have tt448 : (wt_gf r345.2 108 28).toInt = (wt_gf r20.2 108 28).toInt := congrArg Int32.toInt (f347.1 108 28 (by (try dsimp only); omega))
                  have bb449 := wt_bd (wt_gf r20.2 108 28)
                  have g450 : 0 ≤ (wt_gf r20.2 108 28).toInt ∧ (wt_gf r20.2 108 28).toInt ≤ 60 := wt_R_gf ri23 6 rfl
                  have tt451 : (wt_gf r20.2 108 28).toInt = (wt_gf σ5 108 28).toInt := congrArg Int32.toInt (f22.1 108 28 (by (try dsimp only); omega))
                  have bb452 := wt_bd (wt_gf σ5 108 28)
                  have g453 : 0 ≤ (wt_gf σ5 108 28).toInt ∧ (wt_gf σ5 108 28).toInt ≤ 60 := wt_R_gf rσ5 6 rfl
                  have tt454 : (wt_gf σ5 108 28).toInt = (wt_gf σ 108 28).toInt := congrArg Int32.toInt (fσ5.1 108 28 (by (try dsimp only); omega))
                  have bb455 := wt_bd (wt_gf σ 108 28)
                  have g456 : 0 ≤ (wt_gf σ 108 28).toInt ∧ (wt_gf σ 108 28).toInt ≤ 60 := wt_R_gf r0 6 rfl
                  exact ⟨rfl, (show 0 ≤ ((0 : Int32)).toInt by omega)⟩
                · skip
                  have bb457 := wt_bd (wt_gf r345.2 108 28)
                  have g458 : 0 ≤ (wt_gf r345.2 108 28).toInt ∧ (wt_gf r345.2 108 28).toInt ≤ 60 := wt_R_gf ri348 6 rfl
                  have tt459 : (wt_gf r345.2 108 28).toInt = (wt_gf r20.2 108 28).toInt := congrArg Int32.toInt (f347.1 108 28 (by (try dsimp only); omega))
                  have bb460 := wt_bd (wt_gf r20.2 108 28)
                  have g461 : 0 ≤ (wt_gf r20.2 108 28).toInt ∧ (wt_gf r20.2 108 28).toInt ≤ 60 := wt_R_gf ri23 6 rfl
                  have tt462 : (wt_gf r20.2 108 28).toInt = (wt_gf σ5 108 28).toInt := congrArg Int32.toInt (f22.1 108 28 (by (try dsimp only); omega))
                  have bb463 := wt_bd (wt_gf σ5 108 28)
                  have g464 : 0 ≤ (wt_gf σ5 108 28).toInt ∧ (wt_gf σ5 108 28).toInt ≤ 60 := wt_R_gf rσ5 6 rfl
                  have tt465 : (wt_gf σ5 108 28).toInt = (wt_gf σ 108 28).toInt := congrArg Int32.toInt (fσ5.1 108 28 (by (try dsimp only); omega))
                  have bb466 := wt_bd (wt_gf σ 108 28)
                  have g467 : 0 ≤ (wt_gf σ 108 28).toInt ∧ (wt_gf σ 108 28).toInt ≤ 60 := wt_R_gf r0 6 rfl
                  show ((wt_gf r345.2 108 28).toInt - (0 : Int32).toInt + 0).toNat < n
                  omega
            · skip
              have bb468 := wt_tn x1
              have bb469 := wt_bd (wt_ga r345.2 253 (Int32.toNatClampNeg x1))
              have g470 : 0 ≤ (wt_ga r345.2 253 (Int32.toNatClampNeg x1)).toInt ∧ (wt_ga r345.2 253 (Int32.toNatClampNeg x1)).toInt ≤ 12 := wt_R_ga ri348 9 rfl 253 (by decide) (by decide) (Int32.toNatClampNeg x1)
              have tt471 : (wt_ga r345.2 253 (Int32.toNatClampNeg x1)).toInt = (wt_ga r20.2 253 (Int32.toNatClampNeg x1)).toInt := congrArg Int32.toInt (f347.2 253 (fun z => z) (Int32.toNatClampNeg x1))
              have bb472 := wt_bd (wt_ga r20.2 253 (Int32.toNatClampNeg x1))
              have g473 : 0 ≤ (wt_ga r20.2 253 (Int32.toNatClampNeg x1)).toInt ∧ (wt_ga r20.2 253 (Int32.toNatClampNeg x1)).toInt ≤ 12 := wt_R_ga ri23 9 rfl 253 (by decide) (by decide) (Int32.toNatClampNeg x1)
              have tt474 : (wt_ga r20.2 253 (Int32.toNatClampNeg x1)).toInt = (wt_ga σ5 253 (Int32.toNatClampNeg x1)).toInt := congrArg Int32.toInt (f22.2 253 (fun z => z) (Int32.toNatClampNeg x1))
              have bb475 := wt_bd (wt_ga σ5 253 (Int32.toNatClampNeg x1))
              have g476 : 0 ≤ (wt_ga σ5 253 (Int32.toNatClampNeg x1)).toInt ∧ (wt_ga σ5 253 (Int32.toNatClampNeg x1)).toInt ≤ 12 := wt_R_ga rσ5 9 rfl 253 (by decide) (by decide) (Int32.toNatClampNeg x1)
              have tt477 : (wt_ga σ5 253 (Int32.toNatClampNeg x1)).toInt = (wt_ga σ 253 (Int32.toNatClampNeg x1)).toInt := congrArg Int32.toInt (fσ5.2 253 (fun z => z) (Int32.toNatClampNeg x1))
              have bb478 := wt_bd (wt_ga σ 253 (Int32.toNatClampNeg x1))
              have g479 : 0 ≤ (wt_ga σ 253 (Int32.toNatClampNeg x1)).toInt ∧ (wt_ga σ 253 (Int32.toNatClampNeg x1)).toInt ≤ 12 := wt_R_ga r0 9 rfl 253 (by decide) (by decide) (Int32.toNatClampNeg x1)
              exact ⟨rfl, (show 0 ≤ ((0 : Int32)).toInt by omega)⟩
            · skip
              have bb480 := wt_tn x1
              have bb481 := wt_bd (wt_ga r345.2 253 (Int32.toNatClampNeg x1))
              have g482 : 0 ≤ (wt_ga r345.2 253 (Int32.toNatClampNeg x1)).toInt ∧ (wt_ga r345.2 253 (Int32.toNatClampNeg x1)).toInt ≤ 12 := wt_R_ga ri348 9 rfl 253 (by decide) (by decide) (Int32.toNatClampNeg x1)
              have tt483 : (wt_ga r345.2 253 (Int32.toNatClampNeg x1)).toInt = (wt_ga r20.2 253 (Int32.toNatClampNeg x1)).toInt := congrArg Int32.toInt (f347.2 253 (fun z => z) (Int32.toNatClampNeg x1))
              have bb484 := wt_bd (wt_ga r20.2 253 (Int32.toNatClampNeg x1))
              have g485 : 0 ≤ (wt_ga r20.2 253 (Int32.toNatClampNeg x1)).toInt ∧ (wt_ga r20.2 253 (Int32.toNatClampNeg x1)).toInt ≤ 12 := wt_R_ga ri23 9 rfl 253 (by decide) (by decide) (Int32.toNatClampNeg x1)
              have tt486 : (wt_ga r20.2 253 (Int32.toNatClampNeg x1)).toInt = (wt_ga σ5 253 (Int32.toNatClampNeg x1)).toInt := congrArg Int32.toInt (f22.2 253 (fun z => z) (Int32.toNatClampNeg x1))
              have bb487 := wt_bd (wt_ga σ5 253 (Int32.toNatClampNeg x1))
              have g488 : 0 ≤ (wt_ga σ5 253 (Int32.toNatClampNeg x1)).toInt ∧ (wt_ga σ5 253 (Int32.toNatClampNeg x1)).toInt ≤ 12 := wt_R_ga rσ5 9 rfl 253 (by decide) (by decide) (Int32.toNatClampNeg x1)
              have tt489 : (wt_ga σ5 253 (Int32.toNatClampNeg x1)).toInt = (wt_ga σ 253 (Int32.toNatClampNeg x1)).toInt := congrArg Int32.toInt (fσ5.2 253 (fun z => z) (Int32.toNatClampNeg x1))
              have bb490 := wt_bd (wt_ga σ 253 (Int32.toNatClampNeg x1))
              have g491 : 0 ≤ (wt_ga σ 253 (Int32.toNatClampNeg x1)).toInt ∧ (wt_ga σ 253 (Int32.toNatClampNeg x1)).toInt ≤ 12 := wt_R_ga r0 9 rfl 253 (by decide) (by decide) (Int32.toNatClampNeg x1)
              show ((wt_ga r345.2 253 (Int32.toNatClampNeg x1)).toInt - (0 : Int32).toInt + 0).toNat < n
              omega
          · skip
            have c492 := wt_nceq h352
            refine wt_T_some ?_
            exact ⟨(wt_fr.tr (wt_fr.tr (wt_fr.tr wt_fr.rf fσ5 (fun i k h => by (try dsimp only at h); exact Or.inl (by omega)) (fun i h => h.elim)) f22 (fun i k h => by (try dsimp only at h); exact Or.inl (by omega)) (fun i h => h.elim)) f347 (fun i k h => by (try dsimp only at h); exact Or.inl (by omega)) (fun i h => h.elim)), ri348⟩
    · skip
      have c493 := wt_nceq h28
      refine wt_T_some ?_
      exact ⟨(wt_fr.tr (wt_fr.tr wt_fr.rf fσ5 (fun i k h => by (try dsimp only at h); exact Or.inl (by omega)) (fun i h => h.elim)) f22 (fun i k h => by (try dsimp only at h); exact Or.inl (by omega)) (fun i h => h.elim)), ri23⟩
  · skip
    have c494 := wt_nceq h17
    unfold wp_md_fitting_B19
    have k495 : (1 : Int32).toInt = 1 := by decide
    refine wt_T_bi (wq_md_bad n hn (0 : Int32) (1 : Int32) σ5 rσ5 (by omega)) (fun r496 h497 => ?_)
    obtain ⟨f498, ri499, pp500⟩ := h497
    have bb501 := wt_bd r496.1
    have bb502 := wt_bd (wt_gf r496.2 108 0)
    have bb503 := wt_bd (wt_gf σ5 108 0)
    refine wt_T_if (fun h504 => ?_) (fun h504 => ?_)
    · skip
      have c505 := wt_ceq h504
      refine wt_T_bi (wq_md_isCopies n hn x2 r496.2 ri499) (fun r506 h507 => ?_)
      obtain ⟨e508, pp509⟩ := h507
      have bb510 := wt_bd r506.1
      rw [e508]
      refine wt_T_if (fun h511 => ?_) (fun h511 => ?_)
      · skip
        have c512 := wt_ceq h511
        unfold wp_md_fitting_B44
        unfold wp_md_fitting_B49
        have k513 : (2 : Int32).toInt = 2 := by decide
        refine wt_T_bi (wq_md_bad n hn (1 : Int32) (2 : Int32) r496.2 ri499 (by omega)) (fun r514 h515 => ?_)
        obtain ⟨f516, ri517, pp518⟩ := h515
        have bb519 := wt_bd r514.1
        have bb520 := wt_bd (wt_gf r514.2 108 0)
        refine wt_T_if (fun h521 => ?_) (fun h521 => ?_)
        · skip
          have c522 := wt_ceq h521
          refine wt_T_it (fun s : Int32 × Int32 × wt_St => s.2.2 = r514.2 ∧ 0 ≤ (s.2.1).toInt) (fun s : Int32 × Int32 × wt_St => ((wt_ga s.2.2 253 (Int32.toNatClampNeg x1)).toInt - s.2.1.toInt + 0).toNat) (fun KK523 z524 I525 hKK523 => ?_) _ _ ?_ ?_
          · skip
            obtain ⟨l526, l527⟩ := I525
            unfold wp_md_fitting_B64
            rw [l526]
            have bb528 := wt_tn x1
            have bb529 := wt_bd (wt_ga r514.2 253 (Int32.toNatClampNeg x1))
            have g530 : 0 ≤ (wt_ga r514.2 253 (Int32.toNatClampNeg x1)).toInt ∧ (wt_ga r514.2 253 (Int32.toNatClampNeg x1)).toInt ≤ 12 := wt_R_ga ri517 9 rfl 253 (by decide) (by decide) (Int32.toNatClampNeg x1)
            have tt531 : (wt_ga r514.2 253 (Int32.toNatClampNeg x1)).toInt = (wt_ga r496.2 253 (Int32.toNatClampNeg x1)).toInt := congrArg Int32.toInt (f516.2 253 (fun z => z) (Int32.toNatClampNeg x1))
            have bb532 := wt_bd (wt_ga r496.2 253 (Int32.toNatClampNeg x1))
            have g533 : 0 ≤ (wt_ga r496.2 253 (Int32.toNatClampNeg x1)).toInt ∧ (wt_ga r496.2 253 (Int32.toNatClampNeg x1)).toInt ≤ 12 := wt_R_ga ri499 9 rfl 253 (by decide) (by decide) (Int32.toNatClampNeg x1)
            have tt534 : (wt_ga r496.2 253 (Int32.toNatClampNeg x1)).toInt = (wt_ga σ5 253 (Int32.toNatClampNeg x1)).toInt := congrArg Int32.toInt (f498.2 253 (fun z => z) (Int32.toNatClampNeg x1))
            have bb535 := wt_bd (wt_ga σ5 253 (Int32.toNatClampNeg x1))
            have g536 : 0 ≤ (wt_ga σ5 253 (Int32.toNatClampNeg x1)).toInt ∧ (wt_ga σ5 253 (Int32.toNatClampNeg x1)).toInt ≤ 12 := wt_R_ga rσ5 9 rfl 253 (by decide) (by decide) (Int32.toNatClampNeg x1)
            have tt537 : (wt_ga σ5 253 (Int32.toNatClampNeg x1)).toInt = (wt_ga σ 253 (Int32.toNatClampNeg x1)).toInt := congrArg Int32.toInt (fσ5.2 253 (fun z => z) (Int32.toNatClampNeg x1))
            have bb538 := wt_bd (wt_ga σ 253 (Int32.toNatClampNeg x1))
            have g539 : 0 ≤ (wt_ga σ 253 (Int32.toNatClampNeg x1)).toInt ∧ (wt_ga σ 253 (Int32.toNatClampNeg x1)).toInt ≤ 12 := wt_R_ga r0 9 rfl 253 (by decide) (by decide) (Int32.toNatClampNeg x1)
            have bb540 := wt_bd z524.2.1
            refine wt_T_gd (wt_ix (by omega) (by omega)) ?_
            refine wt_T_if (fun h541 => ?_) (fun h541 => ?_)
            · skip
              have c542 := wt_cle h541
              have bb543 := wt_bd z524.1
              have k544 : (4096 : Int32).toInt = 4096 := by decide
              refine wt_T_if (fun h545 => ?_) (fun h545 => ?_)
              · skip
                have c546 := wt_cle h545
                obtain ⟨σ547, eσ547⟩ : ∃ z : wt_St, z = wt_sf r514.2 108 60 (-1 : Int32) := ⟨_, rfl⟩
                rw [← eσ547]
                have fσ547 := wt_fr_sf eσ547
                have vσ547 := wt_ceq (wt_v_sf eσ547)
                have rσ547 := wt_RI_fno ri517 eσ547 (Or.inr (by decide))
                have bb548 := wt_bd (wt_ga σ547 253 (Int32.toNatClampNeg x1))
                have g549 : 0 ≤ (wt_ga σ547 253 (Int32.toNatClampNeg x1)).toInt ∧ (wt_ga σ547 253 (Int32.toNatClampNeg x1)).toInt ≤ 12 := wt_R_ga rσ547 9 rfl 253 (by decide) (by decide) (Int32.toNatClampNeg x1)
                have tt550 : (wt_ga σ547 253 (Int32.toNatClampNeg x1)).toInt = (wt_ga r514.2 253 (Int32.toNatClampNeg x1)).toInt := congrArg Int32.toInt (fσ547.2 253 (fun z => z) (Int32.toNatClampNeg x1))
                refine wt_T_bi (wq_md_tries n hn x1 (0 : Int32) x2 (0 : Int32) σ547 rσ547 (by omega) (by omega) (by omega) (by omega)) (fun r551 h552 => ?_)
                obtain ⟨f553, ri554⟩ := h552
                refine wt_T_if (fun h555 => ?_) (fun h555 => ?_)
                · skip
                  have c556 := wt_ceq h555
                  unfold wp_md_fitting_B185
                  refine wt_T_some ?_
                  exact ⟨(wt_fr.tr (wt_fr.tr (wt_fr.tr (wt_fr.tr (wt_fr.tr wt_fr.rf fσ5 (fun i k h => by (try dsimp only at h); exact Or.inl (by omega)) (fun i h => h.elim)) f498 (fun i k h => by (try dsimp only at h); exact Or.inl (by omega)) (fun i h => h.elim)) f516 (fun i k h => by (try dsimp only at h); exact Or.inl (by omega)) (fun i h => h.elim)) fσ547 (fun i k h => by (try dsimp only at h); exact Or.inr ((by omega))) (fun i h => h.elim)) f553 (fun i k h => by (try dsimp only at h); exact Or.inr ((by omega))) (fun i h => by (try dsimp only at h); rcases h with h | h | h; exact Or.inl (by omega); exact Or.inr (Or.inl (by omega)); exact Or.inr (Or.inr ((by omega))))), ri554⟩
                · skip
                  have c557 := wt_nceq h555
                  have bb558 := wt_bd (wt_gf r551 108 60)
                  refine wt_T_if (fun h559 => ?_) (fun h559 => ?_)
                  · skip
                    have c560 := wt_ceq h559
                    rw [wt_lm1] at c560
                    unfold wp_md_fitting_B185
                    refine wt_T_some ?_
                    exact ⟨(wt_fr.tr (wt_fr.tr (wt_fr.tr (wt_fr.tr (wt_fr.tr wt_fr.rf fσ5 (fun i k h => by (try dsimp only at h); exact Or.inl (by omega)) (fun i h => h.elim)) f498 (fun i k h => by (try dsimp only at h); exact Or.inl (by omega)) (fun i h => h.elim)) f516 (fun i k h => by (try dsimp only at h); exact Or.inl (by omega)) (fun i h => h.elim)) fσ547 (fun i k h => by (try dsimp only at h); exact Or.inr ((by omega))) (fun i h => h.elim)) f553 (fun i k h => by (try dsimp only at h); exact Or.inr ((by omega))) (fun i h => by (try dsimp only at h); rcases h with h | h | h; exact Or.inl (by omega); exact Or.inr (Or.inl (by omega)); exact Or.inr (Or.inr ((by omega))))), ri554⟩
                  · skip
                    have c561 := wt_nceq h559
                    rw [wt_lm1] at c561
                    refine wt_T_gd (wt_ix (by omega) (by omega)) ?_
                    have bb562 := wt_bd (wt_ga r551 253 (Int32.toNatClampNeg x1))
                    have g563 : 0 ≤ (wt_ga r551 253 (Int32.toNatClampNeg x1)).toInt ∧ (wt_ga r551 253 (Int32.toNatClampNeg x1)).toInt ≤ 12 := wt_R_ga ri554 9 rfl 253 (by decide) (by decide) (Int32.toNatClampNeg x1)
                    have tt564 : (wt_ga r551 253 (Int32.toNatClampNeg x1)).toInt = (wt_ga σ547 253 (Int32.toNatClampNeg x1)).toInt := congrArg Int32.toInt (f553.2 253 (by (try dsimp only); omega) (Int32.toNatClampNeg x1))
                    obtain ⟨j565, j565a, j565b⟩ := wt_subI (wt_ga r551 253 (Int32.toNatClampNeg x1)) (1 : Int32)
                    refine wt_T_bi (wq_md_in n hn x3 (0 : Int32) ((wt_ga r551 253 (Int32.toNatClampNeg x1)) - (1 : Int32)) r551 ri554) (fun r566 h567 => ?_)
                    obtain ⟨e568, pp569⟩ := h567
                    have bb570 := wt_bd r566.1
                    rw [e568]
                    refine wt_T_if (fun h571 => ?_) (fun h571 => ?_)
                    · skip
                      have c572 := wt_ceq h571
                      refine wt_T_some ?_
                      exact ⟨(wt_fr.tr (wt_fr.tr (wt_fr.tr (wt_fr.tr (wt_fr.tr wt_fr.rf fσ5 (fun i k h => by (try dsimp only at h); exact Or.inl (by omega)) (fun i h => h.elim)) f498 (fun i k h => by (try dsimp only at h); exact Or.inl (by omega)) (fun i h => h.elim)) f516 (fun i k h => by (try dsimp only at h); exact Or.inl (by omega)) (fun i h => h.elim)) fσ547 (fun i k h => by (try dsimp only at h); exact Or.inr ((by omega))) (fun i h => h.elim)) f553 (fun i k h => by (try dsimp only at h); exact Or.inr ((by omega))) (fun i h => by (try dsimp only at h); rcases h with h | h | h; exact Or.inl (by omega); exact Or.inr (Or.inl (by omega)); exact Or.inr (Or.inr ((by omega))))), ri554⟩
                    · skip
                      have c573 := wt_nceq h571
                      refine wt_T_gd (wt_ix (by omega) (by omega)) ?_
                      refine wt_T_some ?_
                      exact ⟨(wt_fr.tr (wt_fr.tr (wt_fr.tr (wt_fr.tr (wt_fr.tr wt_fr.rf fσ5 (fun i k h => by (try dsimp only at h); exact Or.inl (by omega)) (fun i h => h.elim)) f498 (fun i k h => by (try dsimp only at h); exact Or.inl (by omega)) (fun i h => h.elim)) f516 (fun i k h => by (try dsimp only at h); exact Or.inl (by omega)) (fun i h => h.elim)) fσ547 (fun i k h => by (try dsimp only at h); exact Or.inr ((by omega))) (fun i h => h.elim)) f553 (fun i k h => by (try dsimp only at h); exact Or.inr ((by omega))) (fun i h => by (try dsimp only at h); rcases h with h | h | h; exact Or.inl (by omega); exact Or.inr (Or.inl (by omega)); exact Or.inr (Or.inr ((by omega))))), ri554⟩
              · skip
                have c574 := wt_ncle h545
                refine wt_T_some ?_
                exact ⟨(wt_fr.tr (wt_fr.tr (wt_fr.tr wt_fr.rf fσ5 (fun i k h => by (try dsimp only at h); exact Or.inl (by omega)) (fun i h => h.elim)) f498 (fun i k h => by (try dsimp only at h); exact Or.inl (by omega)) (fun i h => h.elim)) f516 (fun i k h => by (try dsimp only at h); exact Or.inl (by omega)) (fun i h => h.elim)), ri517⟩
            · skip
              have c575 := wt_ncle h541
              refine wt_T_it (fun s : Int32 × Int32 × wt_St => s.2.2 = r514.2 ∧ 0 ≤ (s.2.1).toInt) (fun s : Int32 × Int32 × wt_St => ((wt_gf s.2.2 108 28).toInt - s.2.1.toInt + 0).toNat) (fun KK576 z577 I578 hKK576 => ?_) _ _ ?_ ?_
              · skip
                obtain ⟨l579, l580⟩ := I578
                unfold wp_md_fitting_B81
                rw [l579]
                have bb581 := wt_bd (wt_gf r514.2 108 28)
                have g582 : 0 ≤ (wt_gf r514.2 108 28).toInt ∧ (wt_gf r514.2 108 28).toInt ≤ 60 := wt_R_gf ri517 6 rfl
                have tt583 : (wt_gf r514.2 108 28).toInt = (wt_gf r496.2 108 28).toInt := congrArg Int32.toInt (f516.1 108 28 (by (try dsimp only); omega))
                have bb584 := wt_bd (wt_gf r496.2 108 28)
                have g585 : 0 ≤ (wt_gf r496.2 108 28).toInt ∧ (wt_gf r496.2 108 28).toInt ≤ 60 := wt_R_gf ri499 6 rfl
                have tt586 : (wt_gf r496.2 108 28).toInt = (wt_gf σ5 108 28).toInt := congrArg Int32.toInt (f498.1 108 28 (by (try dsimp only); omega))
                have bb587 := wt_bd (wt_gf σ5 108 28)
                have g588 : 0 ≤ (wt_gf σ5 108 28).toInt ∧ (wt_gf σ5 108 28).toInt ≤ 60 := wt_R_gf rσ5 6 rfl
                have tt589 : (wt_gf σ5 108 28).toInt = (wt_gf σ 108 28).toInt := congrArg Int32.toInt (fσ5.1 108 28 (by (try dsimp only); omega))
                have bb590 := wt_bd (wt_gf σ 108 28)
                have g591 : 0 ≤ (wt_gf σ 108 28).toInt ∧ (wt_gf σ 108 28).toInt ≤ 60 := wt_R_gf r0 6 rfl
                have bb592 := wt_bd z577.2.1
                refine wt_T_if (fun h593 => ?_) (fun h593 => ?_)
                · skip
                  have c594 := wt_cle h593
                  have bb595 := wt_bd z524.1
                  have bb596 := wt_bd z577.1
                  obtain ⟨j597, j597a, j597b⟩ := wt_mulI z524.1 z577.1
                  have k598 : (4096 : Int32).toInt = 4096 := by decide
                  refine wt_T_if (fun h599 => ?_) (fun h599 => ?_)
                  · skip
                    have c600 := wt_cle h599
                    unfold wp_md_fitting_B140
                    refine hKK523 _ ⟨rfl, (wt_nn (B := wt_ga z524.2.2 253 (Int32.toNatClampNeg x1)) (by omega) (by first | (rw [l526]; omega) | (rw [l526]; done) | omega))⟩ ?_
                    show ((wt_ga r514.2 253 (Int32.toNatClampNeg x1)).toInt - (z524.2.1 + (1 : Int32)).toInt + 0).toNat < ((wt_ga z524.2.2 253 (Int32.toNatClampNeg x1)).toInt - z524.2.1.toInt + 0).toNat
                    exact wt_mu (by first | (rw [l526]; omega) | (rw [l526]; done) | omega) (by first | (rw [l526]; omega) | (rw [l526]; done) | omega)
                  · skip
                    have c601 := wt_ncle h599
                    unfold wp_md_fitting_B140
                    have k602 : (5000 : Int32).toInt = 5000 := by decide
                    refine hKK523 _ ⟨rfl, (wt_nn (B := wt_ga z524.2.2 253 (Int32.toNatClampNeg x1)) (by omega) (by first | (rw [l526]; omega) | (rw [l526]; done) | omega))⟩ ?_
                    show ((wt_ga r514.2 253 (Int32.toNatClampNeg x1)).toInt - (z524.2.1 + (1 : Int32)).toInt + 0).toNat < ((wt_ga z524.2.2 253 (Int32.toNatClampNeg x1)).toInt - z524.2.1.toInt + 0).toNat
                    exact wt_mu (by first | (rw [l526]; omega) | (rw [l526]; done) | omega) (by first | (rw [l526]; omega) | (rw [l526]; done) | omega)
                · skip
                  have c603 := wt_ncle h593
                  refine wt_T_bi (wq_md_isOf n hn z577.2.1 x1 z524.2.1 r514.2 ri517 (by omega) (by omega) (by omega) (by omega) (by omega) (by omega)) (fun r604 h605 => ?_)
                  have e606 := h605
                  have bb607 := wt_bd r604.1
                  rw [e606]
                  refine wt_T_if (fun h608 => ?_) (fun h608 => ?_)
                  · skip
                    have c609 := wt_ceq h608
                    unfold wp_md_fitting_B109
                    have bb610 := wt_bd z577.1
                    obtain ⟨j611, j611a, j611b⟩ := wt_addI z577.1 (0 : Int32)
                    refine hKK576 _ ⟨rfl, (wt_nn (B := wt_gf z577.2.2 108 28) (by omega) (by first | (rw [l579]; omega) | (rw [l579]; done) | omega))⟩ ?_
                    show ((wt_gf r514.2 108 28).toInt - (z577.2.1 + (1 : Int32)).toInt + 0).toNat < ((wt_gf z577.2.2 108 28).toInt - z577.2.1.toInt + 0).toNat
                    exact wt_mu (by first | (rw [l579]; omega) | (rw [l579]; done) | omega) (by first | (rw [l579]; omega) | (rw [l579]; done) | omega)
                  · skip
                    have c612 := wt_nceq h608
                    unfold wp_md_fitting_B109
                    have bb613 := wt_bd z577.1
                    obtain ⟨j614, j614a, j614b⟩ := wt_addI z577.1 (1 : Int32)
                    refine hKK576 _ ⟨rfl, (wt_nn (B := wt_gf z577.2.2 108 28) (by omega) (by first | (rw [l579]; omega) | (rw [l579]; done) | omega))⟩ ?_
                    show ((wt_gf r514.2 108 28).toInt - (z577.2.1 + (1 : Int32)).toInt + 0).toNat < ((wt_gf z577.2.2 108 28).toInt - z577.2.1.toInt + 0).toNat
                    exact wt_mu (by first | (rw [l579]; omega) | (rw [l579]; done) | omega) (by first | (rw [l579]; omega) | (rw [l579]; done) | omega)
              · skip
                have bb615 := wt_bd (wt_gf r514.2 108 28)
                have g616 : 0 ≤ (wt_gf r514.2 108 28).toInt ∧ (wt_gf r514.2 108 28).toInt ≤ 60 := wt_R_gf ri517 6 rfl
                have tt617 : (wt_gf r514.2 108 28).toInt = (wt_gf r496.2 108 28).toInt := congrArg Int32.toInt (f516.1 108 28 (by (try dsimp only); omega))
                have bb618 := wt_bd (wt_gf r496.2 108 28)
                have g619 : 0 ≤ (wt_gf r496.2 108 28).toInt ∧ (wt_gf r496.2 108 28).toInt ≤ 60 := wt_R_gf ri499 6 rfl
                have tt620 : (wt_gf r496.2 108 28).toInt = (wt_gf σ5 108 28).toInt := congrArg Int32.toInt (f498.1 108 28 (by (try dsimp only); omega))
                have bb621 := wt_bd (wt_gf σ5 108 28)
                have g622 : 0 ≤ (wt_gf σ5 108 28).toInt ∧ (wt_gf σ5 108 28).toInt ≤ 60 := wt_R_gf rσ5 6 rfl
                have tt623 : (wt_gf σ5 108 28).toInt = (wt_gf σ 108 28).toInt := congrArg Int32.toInt (fσ5.1 108 28 (by (try dsimp only); omega))
                have bb624 := wt_bd (wt_gf σ 108 28)
                have g625 : 0 ≤ (wt_gf σ 108 28).toInt ∧ (wt_gf σ 108 28).toInt ≤ 60 := wt_R_gf r0 6 rfl
                exact ⟨rfl, (show 0 ≤ ((0 : Int32)).toInt by omega)⟩
              · skip
                have bb626 := wt_bd (wt_gf r514.2 108 28)
                have g627 : 0 ≤ (wt_gf r514.2 108 28).toInt ∧ (wt_gf r514.2 108 28).toInt ≤ 60 := wt_R_gf ri517 6 rfl
                have tt628 : (wt_gf r514.2 108 28).toInt = (wt_gf r496.2 108 28).toInt := congrArg Int32.toInt (f516.1 108 28 (by (try dsimp only); omega))
                have bb629 := wt_bd (wt_gf r496.2 108 28)
                have g630 : 0 ≤ (wt_gf r496.2 108 28).toInt ∧ (wt_gf r496.2 108 28).toInt ≤ 60 := wt_R_gf ri499 6 rfl
                have tt631 : (wt_gf r496.2 108 28).toInt = (wt_gf σ5 108 28).toInt := congrArg Int32.toInt (f498.1 108 28 (by (try dsimp only); omega))
                have bb632 := wt_bd (wt_gf σ5 108 28)
                have g633 : 0 ≤ (wt_gf σ5 108 28).toInt ∧ (wt_gf σ5 108 28).toInt ≤ 60 := wt_R_gf rσ5 6 rfl
                have tt634 : (wt_gf σ5 108 28).toInt = (wt_gf σ 108 28).toInt := congrArg Int32.toInt (fσ5.1 108 28 (by (try dsimp only); omega))
                have bb635 := wt_bd (wt_gf σ 108 28)
                have g636 : 0 ≤ (wt_gf σ 108 28).toInt ∧ (wt_gf σ 108 28).toInt ≤ 60 := wt_R_gf r0 6 rfl
                show ((wt_gf r514.2 108 28).toInt - (0 : Int32).toInt + 0).toNat < n
                omega
          · skip
            have bb637 := wt_tn x1
            have bb638 := wt_bd (wt_ga r514.2 253 (Int32.toNatClampNeg x1))
            have g639 : 0 ≤ (wt_ga r514.2 253 (Int32.toNatClampNeg x1)).toInt ∧ (wt_ga r514.2 253 (Int32.toNatClampNeg x1)).toInt ≤ 12 := wt_R_ga ri517 9 rfl 253 (by decide) (by decide) (Int32.toNatClampNeg x1)
            have tt640 : (wt_ga r514.2 253 (Int32.toNatClampNeg x1)).toInt = (wt_ga r496.2 253 (Int32.toNatClampNeg x1)).toInt := congrArg Int32.toInt (f516.2 253 (fun z => z) (Int32.toNatClampNeg x1))
            have bb641 := wt_bd (wt_ga r496.2 253 (Int32.toNatClampNeg x1))
            have g642 : 0 ≤ (wt_ga r496.2 253 (Int32.toNatClampNeg x1)).toInt ∧ (wt_ga r496.2 253 (Int32.toNatClampNeg x1)).toInt ≤ 12 := wt_R_ga ri499 9 rfl 253 (by decide) (by decide) (Int32.toNatClampNeg x1)
            have tt643 : (wt_ga r496.2 253 (Int32.toNatClampNeg x1)).toInt = (wt_ga σ5 253 (Int32.toNatClampNeg x1)).toInt := congrArg Int32.toInt (f498.2 253 (fun z => z) (Int32.toNatClampNeg x1))
            have bb644 := wt_bd (wt_ga σ5 253 (Int32.toNatClampNeg x1))
            have g645 : 0 ≤ (wt_ga σ5 253 (Int32.toNatClampNeg x1)).toInt ∧ (wt_ga σ5 253 (Int32.toNatClampNeg x1)).toInt ≤ 12 := wt_R_ga rσ5 9 rfl 253 (by decide) (by decide) (Int32.toNatClampNeg x1)
            have tt646 : (wt_ga σ5 253 (Int32.toNatClampNeg x1)).toInt = (wt_ga σ 253 (Int32.toNatClampNeg x1)).toInt := congrArg Int32.toInt (fσ5.2 253 (fun z => z) (Int32.toNatClampNeg x1))
            have bb647 := wt_bd (wt_ga σ 253 (Int32.toNatClampNeg x1))
            have g648 : 0 ≤ (wt_ga σ 253 (Int32.toNatClampNeg x1)).toInt ∧ (wt_ga σ 253 (Int32.toNatClampNeg x1)).toInt ≤ 12 := wt_R_ga r0 9 rfl 253 (by decide) (by decide) (Int32.toNatClampNeg x1)
            exact ⟨rfl, (show 0 ≤ ((0 : Int32)).toInt by omega)⟩
          · skip
            have bb649 := wt_tn x1
            have bb650 := wt_bd (wt_ga r514.2 253 (Int32.toNatClampNeg x1))
            have g651 : 0 ≤ (wt_ga r514.2 253 (Int32.toNatClampNeg x1)).toInt ∧ (wt_ga r514.2 253 (Int32.toNatClampNeg x1)).toInt ≤ 12 := wt_R_ga ri517 9 rfl 253 (by decide) (by decide) (Int32.toNatClampNeg x1)
            have tt652 : (wt_ga r514.2 253 (Int32.toNatClampNeg x1)).toInt = (wt_ga r496.2 253 (Int32.toNatClampNeg x1)).toInt := congrArg Int32.toInt (f516.2 253 (fun z => z) (Int32.toNatClampNeg x1))
            have bb653 := wt_bd (wt_ga r496.2 253 (Int32.toNatClampNeg x1))
            have g654 : 0 ≤ (wt_ga r496.2 253 (Int32.toNatClampNeg x1)).toInt ∧ (wt_ga r496.2 253 (Int32.toNatClampNeg x1)).toInt ≤ 12 := wt_R_ga ri499 9 rfl 253 (by decide) (by decide) (Int32.toNatClampNeg x1)
            have tt655 : (wt_ga r496.2 253 (Int32.toNatClampNeg x1)).toInt = (wt_ga σ5 253 (Int32.toNatClampNeg x1)).toInt := congrArg Int32.toInt (f498.2 253 (fun z => z) (Int32.toNatClampNeg x1))
            have bb656 := wt_bd (wt_ga σ5 253 (Int32.toNatClampNeg x1))
            have g657 : 0 ≤ (wt_ga σ5 253 (Int32.toNatClampNeg x1)).toInt ∧ (wt_ga σ5 253 (Int32.toNatClampNeg x1)).toInt ≤ 12 := wt_R_ga rσ5 9 rfl 253 (by decide) (by decide) (Int32.toNatClampNeg x1)
            have tt658 : (wt_ga σ5 253 (Int32.toNatClampNeg x1)).toInt = (wt_ga σ 253 (Int32.toNatClampNeg x1)).toInt := congrArg Int32.toInt (fσ5.2 253 (fun z => z) (Int32.toNatClampNeg x1))
            have bb659 := wt_bd (wt_ga σ 253 (Int32.toNatClampNeg x1))
            have g660 : 0 ≤ (wt_ga σ 253 (Int32.toNatClampNeg x1)).toInt ∧ (wt_ga σ 253 (Int32.toNatClampNeg x1)).toInt ≤ 12 := wt_R_ga r0 9 rfl 253 (by decide) (by decide) (Int32.toNatClampNeg x1)
            show ((wt_ga r514.2 253 (Int32.toNatClampNeg x1)).toInt - (0 : Int32).toInt + 0).toNat < n
            omega
        · skip
          have c661 := wt_nceq h521
          refine wt_T_some ?_
          exact ⟨(wt_fr.tr (wt_fr.tr (wt_fr.tr wt_fr.rf fσ5 (fun i k h => by (try dsimp only at h); exact Or.inl (by omega)) (fun i h => h.elim)) f498 (fun i k h => by (try dsimp only at h); exact Or.inl (by omega)) (fun i h => h.elim)) f516 (fun i k h => by (try dsimp only at h); exact Or.inl (by omega)) (fun i h => h.elim)), ri517⟩
      · skip
        have c662 := wt_nceq h511
        refine wt_T_bi (wq_md_in n hn x4 (0 : Int32) (1 : Int32) r496.2 ri499) (fun r663 h664 => ?_)
        obtain ⟨e665, pp666⟩ := h664
        have bb667 := wt_bd r663.1
        rw [e665]
        refine wt_T_if (fun h668 => ?_) (fun h668 => ?_)
        · skip
          have c669 := wt_ceq h668
          unfold wp_md_fitting_B44
          unfold wp_md_fitting_B49
          have k670 : (2 : Int32).toInt = 2 := by decide
          refine wt_T_bi (wq_md_bad n hn (1 : Int32) (2 : Int32) r496.2 ri499 (by omega)) (fun r671 h672 => ?_)
          obtain ⟨f673, ri674, pp675⟩ := h672
          have bb676 := wt_bd r671.1
          have bb677 := wt_bd (wt_gf r671.2 108 0)
          refine wt_T_if (fun h678 => ?_) (fun h678 => ?_)
          · skip
            have c679 := wt_ceq h678
            refine wt_T_it (fun s : Int32 × Int32 × wt_St => s.2.2 = r671.2 ∧ 0 ≤ (s.2.1).toInt) (fun s : Int32 × Int32 × wt_St => ((wt_ga s.2.2 253 (Int32.toNatClampNeg x1)).toInt - s.2.1.toInt + 0).toNat) (fun KK680 z681 I682 hKK680 => ?_) _ _ ?_ ?_
            · skip
              obtain ⟨l683, l684⟩ := I682
              unfold wp_md_fitting_B64
              rw [l683]
              have bb685 := wt_tn x1
              have bb686 := wt_bd (wt_ga r671.2 253 (Int32.toNatClampNeg x1))
              have g687 : 0 ≤ (wt_ga r671.2 253 (Int32.toNatClampNeg x1)).toInt ∧ (wt_ga r671.2 253 (Int32.toNatClampNeg x1)).toInt ≤ 12 := wt_R_ga ri674 9 rfl 253 (by decide) (by decide) (Int32.toNatClampNeg x1)
              have tt688 : (wt_ga r671.2 253 (Int32.toNatClampNeg x1)).toInt = (wt_ga r496.2 253 (Int32.toNatClampNeg x1)).toInt := congrArg Int32.toInt (f673.2 253 (fun z => z) (Int32.toNatClampNeg x1))
              have bb689 := wt_bd (wt_ga r496.2 253 (Int32.toNatClampNeg x1))
              have g690 : 0 ≤ (wt_ga r496.2 253 (Int32.toNatClampNeg x1)).toInt ∧ (wt_ga r496.2 253 (Int32.toNatClampNeg x1)).toInt ≤ 12 := wt_R_ga ri499 9 rfl 253 (by decide) (by decide) (Int32.toNatClampNeg x1)
              have tt691 : (wt_ga r496.2 253 (Int32.toNatClampNeg x1)).toInt = (wt_ga σ5 253 (Int32.toNatClampNeg x1)).toInt := congrArg Int32.toInt (f498.2 253 (fun z => z) (Int32.toNatClampNeg x1))
              have bb692 := wt_bd (wt_ga σ5 253 (Int32.toNatClampNeg x1))
              have g693 : 0 ≤ (wt_ga σ5 253 (Int32.toNatClampNeg x1)).toInt ∧ (wt_ga σ5 253 (Int32.toNatClampNeg x1)).toInt ≤ 12 := wt_R_ga rσ5 9 rfl 253 (by decide) (by decide) (Int32.toNatClampNeg x1)
              have tt694 : (wt_ga σ5 253 (Int32.toNatClampNeg x1)).toInt = (wt_ga σ 253 (Int32.toNatClampNeg x1)).toInt := congrArg Int32.toInt (fσ5.2 253 (fun z => z) (Int32.toNatClampNeg x1))
              have bb695 := wt_bd (wt_ga σ 253 (Int32.toNatClampNeg x1))
              have g696 : 0 ≤ (wt_ga σ 253 (Int32.toNatClampNeg x1)).toInt ∧ (wt_ga σ 253 (Int32.toNatClampNeg x1)).toInt ≤ 12 := wt_R_ga r0 9 rfl 253 (by decide) (by decide) (Int32.toNatClampNeg x1)
              have bb697 := wt_bd z681.2.1
              refine wt_T_gd (wt_ix (by omega) (by omega)) ?_
              refine wt_T_if (fun h698 => ?_) (fun h698 => ?_)
              · skip
                have c699 := wt_cle h698
                have bb700 := wt_bd z681.1
                have k701 : (4096 : Int32).toInt = 4096 := by decide
                refine wt_T_if (fun h702 => ?_) (fun h702 => ?_)
                · skip
                  have c703 := wt_cle h702
                  obtain ⟨σ704, eσ704⟩ : ∃ z : wt_St, z = wt_sf r671.2 108 60 (-1 : Int32) := ⟨_, rfl⟩
                  rw [← eσ704]
                  have fσ704 := wt_fr_sf eσ704
                  have vσ704 := wt_ceq (wt_v_sf eσ704)
                  have rσ704 := wt_RI_fno ri674 eσ704 (Or.inr (by decide))
                  have bb705 := wt_bd (wt_ga σ704 253 (Int32.toNatClampNeg x1))
                  have g706 : 0 ≤ (wt_ga σ704 253 (Int32.toNatClampNeg x1)).toInt ∧ (wt_ga σ704 253 (Int32.toNatClampNeg x1)).toInt ≤ 12 := wt_R_ga rσ704 9 rfl 253 (by decide) (by decide) (Int32.toNatClampNeg x1)
                  have tt707 : (wt_ga σ704 253 (Int32.toNatClampNeg x1)).toInt = (wt_ga r671.2 253 (Int32.toNatClampNeg x1)).toInt := congrArg Int32.toInt (fσ704.2 253 (fun z => z) (Int32.toNatClampNeg x1))
                  refine wt_T_bi (wq_md_tries n hn x1 (0 : Int32) x2 (0 : Int32) σ704 rσ704 (by omega) (by omega) (by omega) (by omega)) (fun r708 h709 => ?_)
                  obtain ⟨f710, ri711⟩ := h709
                  refine wt_T_if (fun h712 => ?_) (fun h712 => ?_)
                  · skip
                    have c713 := wt_ceq h712
                    unfold wp_md_fitting_B185
                    refine wt_T_some ?_
                    exact ⟨(wt_fr.tr (wt_fr.tr (wt_fr.tr (wt_fr.tr (wt_fr.tr wt_fr.rf fσ5 (fun i k h => by (try dsimp only at h); exact Or.inl (by omega)) (fun i h => h.elim)) f498 (fun i k h => by (try dsimp only at h); exact Or.inl (by omega)) (fun i h => h.elim)) f673 (fun i k h => by (try dsimp only at h); exact Or.inl (by omega)) (fun i h => h.elim)) fσ704 (fun i k h => by (try dsimp only at h); exact Or.inr ((by omega))) (fun i h => h.elim)) f710 (fun i k h => by (try dsimp only at h); exact Or.inr ((by omega))) (fun i h => by (try dsimp only at h); rcases h with h | h | h; exact Or.inl (by omega); exact Or.inr (Or.inl (by omega)); exact Or.inr (Or.inr ((by omega))))), ri711⟩
                  · skip
                    have c714 := wt_nceq h712
                    have bb715 := wt_bd (wt_gf r708 108 60)
                    refine wt_T_if (fun h716 => ?_) (fun h716 => ?_)
                    · skip
                      have c717 := wt_ceq h716
                      rw [wt_lm1] at c717
                      unfold wp_md_fitting_B185
                      refine wt_T_some ?_
                      exact ⟨(wt_fr.tr (wt_fr.tr (wt_fr.tr (wt_fr.tr (wt_fr.tr wt_fr.rf fσ5 (fun i k h => by (try dsimp only at h); exact Or.inl (by omega)) (fun i h => h.elim)) f498 (fun i k h => by (try dsimp only at h); exact Or.inl (by omega)) (fun i h => h.elim)) f673 (fun i k h => by (try dsimp only at h); exact Or.inl (by omega)) (fun i h => h.elim)) fσ704 (fun i k h => by (try dsimp only at h); exact Or.inr ((by omega))) (fun i h => h.elim)) f710 (fun i k h => by (try dsimp only at h); exact Or.inr ((by omega))) (fun i h => by (try dsimp only at h); rcases h with h | h | h; exact Or.inl (by omega); exact Or.inr (Or.inl (by omega)); exact Or.inr (Or.inr ((by omega))))), ri711⟩
                    · skip
                      have c718 := wt_nceq h716
                      rw [wt_lm1] at c718
                      refine wt_T_gd (wt_ix (by omega) (by omega)) ?_
                      have bb719 := wt_bd (wt_ga r708 253 (Int32.toNatClampNeg x1))
                      have g720 : 0 ≤ (wt_ga r708 253 (Int32.toNatClampNeg x1)).toInt ∧ (wt_ga r708 253 (Int32.toNatClampNeg x1)).toInt ≤ 12 := wt_R_ga ri711 9 rfl 253 (by decide) (by decide) (Int32.toNatClampNeg x1)
                      have tt721 : (wt_ga r708 253 (Int32.toNatClampNeg x1)).toInt = (wt_ga σ704 253 (Int32.toNatClampNeg x1)).toInt := congrArg Int32.toInt (f710.2 253 (by (try dsimp only); omega) (Int32.toNatClampNeg x1))
                      obtain ⟨j722, j722a, j722b⟩ := wt_subI (wt_ga r708 253 (Int32.toNatClampNeg x1)) (1 : Int32)
                      refine wt_T_bi (wq_md_in n hn x3 (0 : Int32) ((wt_ga r708 253 (Int32.toNatClampNeg x1)) - (1 : Int32)) r708 ri711) (fun r723 h724 => ?_)
                      obtain ⟨e725, pp726⟩ := h724
                      have bb727 := wt_bd r723.1
                      rw [e725]
                      refine wt_T_if (fun h728 => ?_) (fun h728 => ?_)
                      · skip
                        have c729 := wt_ceq h728
                        refine wt_T_some ?_
                        exact ⟨(wt_fr.tr (wt_fr.tr (wt_fr.tr (wt_fr.tr (wt_fr.tr wt_fr.rf fσ5 (fun i k h => by (try dsimp only at h); exact Or.inl (by omega)) (fun i h => h.elim)) f498 (fun i k h => by (try dsimp only at h); exact Or.inl (by omega)) (fun i h => h.elim)) f673 (fun i k h => by (try dsimp only at h); exact Or.inl (by omega)) (fun i h => h.elim)) fσ704 (fun i k h => by (try dsimp only at h); exact Or.inr ((by omega))) (fun i h => h.elim)) f710 (fun i k h => by (try dsimp only at h); exact Or.inr ((by omega))) (fun i h => by (try dsimp only at h); rcases h with h | h | h; exact Or.inl (by omega); exact Or.inr (Or.inl (by omega)); exact Or.inr (Or.inr ((by omega))))), ri711⟩
                      · skip
                        have c730 := wt_nceq h728
                        refine wt_T_gd (wt_ix (by omega) (by omega)) ?_
                        refine wt_T_some ?_
                        exact ⟨(wt_fr.tr (wt_fr.tr (wt_fr.tr (wt_fr.tr (wt_fr.tr wt_fr.rf fσ5 (fun i k h => by (try dsimp only at h); exact Or.inl (by omega)) (fun i h => h.elim)) f498 (fun i k h => by (try dsimp only at h); exact Or.inl (by omega)) (fun i h => h.elim)) f673 (fun i k h => by (try dsimp only at h); exact Or.inl (by omega)) (fun i h => h.elim)) fσ704 (fun i k h => by (try dsimp only at h); exact Or.inr ((by omega))) (fun i h => h.elim)) f710 (fun i k h => by (try dsimp only at h); exact Or.inr ((by omega))) (fun i h => by (try dsimp only at h); rcases h with h | h | h; exact Or.inl (by omega); exact Or.inr (Or.inl (by omega)); exact Or.inr (Or.inr ((by omega))))), ri711⟩
                · skip
                  have c731 := wt_ncle h702
                  refine wt_T_some ?_
                  exact ⟨(wt_fr.tr (wt_fr.tr (wt_fr.tr wt_fr.rf fσ5 (fun i k h => by (try dsimp only at h); exact Or.inl (by omega)) (fun i h => h.elim)) f498 (fun i k h => by (try dsimp only at h); exact Or.inl (by omega)) (fun i h => h.elim)) f673 (fun i k h => by (try dsimp only at h); exact Or.inl (by omega)) (fun i h => h.elim)), ri674⟩
              · skip
                have c732 := wt_ncle h698
                refine wt_T_it (fun s : Int32 × Int32 × wt_St => s.2.2 = r671.2 ∧ 0 ≤ (s.2.1).toInt) (fun s : Int32 × Int32 × wt_St => ((wt_gf s.2.2 108 28).toInt - s.2.1.toInt + 0).toNat) (fun KK733 z734 I735 hKK733 => ?_) _ _ ?_ ?_
                · skip
                  obtain ⟨l736, l737⟩ := I735
                  unfold wp_md_fitting_B81
                  rw [l736]
                  have bb738 := wt_bd (wt_gf r671.2 108 28)
                  have g739 : 0 ≤ (wt_gf r671.2 108 28).toInt ∧ (wt_gf r671.2 108 28).toInt ≤ 60 := wt_R_gf ri674 6 rfl
                  have tt740 : (wt_gf r671.2 108 28).toInt = (wt_gf r496.2 108 28).toInt := congrArg Int32.toInt (f673.1 108 28 (by (try dsimp only); omega))
                  have bb741 := wt_bd (wt_gf r496.2 108 28)
                  have g742 : 0 ≤ (wt_gf r496.2 108 28).toInt ∧ (wt_gf r496.2 108 28).toInt ≤ 60 := wt_R_gf ri499 6 rfl
                  have tt743 : (wt_gf r496.2 108 28).toInt = (wt_gf σ5 108 28).toInt := congrArg Int32.toInt (f498.1 108 28 (by (try dsimp only); omega))
                  have bb744 := wt_bd (wt_gf σ5 108 28)
                  have g745 : 0 ≤ (wt_gf σ5 108 28).toInt ∧ (wt_gf σ5 108 28).toInt ≤ 60 := wt_R_gf rσ5 6 rfl
                  have tt746 : (wt_gf σ5 108 28).toInt = (wt_gf σ 108 28).toInt := congrArg Int32.toInt (fσ5.1 108 28 (by (try dsimp only); omega))
                  have bb747 := wt_bd (wt_gf σ 108 28)
                  have g748 : 0 ≤ (wt_gf σ 108 28).toInt ∧ (wt_gf σ 108 28).toInt ≤ 60 := wt_R_gf r0 6 rfl
                  have bb749 := wt_bd z734.2.1
                  refine wt_T_if (fun h750 => ?_) (fun h750 => ?_)
                  · skip
                    have c751 := wt_cle h750
                    have bb752 := wt_bd z681.1
                    have bb753 := wt_bd z734.1
                    obtain ⟨j754, j754a, j754b⟩ := wt_mulI z681.1 z734.1
                    have k755 : (4096 : Int32).toInt = 4096 := by decide
                    refine wt_T_if (fun h756 => ?_) (fun h756 => ?_)
                    · skip
                      have c757 := wt_cle h756
                      unfold wp_md_fitting_B140
                      refine hKK680 _ ⟨rfl, (wt_nn (B := wt_ga z681.2.2 253 (Int32.toNatClampNeg x1)) (by omega) (by first | (rw [l683]; omega) | (rw [l683]; done) | omega))⟩ ?_
                      show ((wt_ga r671.2 253 (Int32.toNatClampNeg x1)).toInt - (z681.2.1 + (1 : Int32)).toInt + 0).toNat < ((wt_ga z681.2.2 253 (Int32.toNatClampNeg x1)).toInt - z681.2.1.toInt + 0).toNat
                      exact wt_mu (by first | (rw [l683]; omega) | (rw [l683]; done) | omega) (by first | (rw [l683]; omega) | (rw [l683]; done) | omega)
                    · skip
                      have c758 := wt_ncle h756
                      unfold wp_md_fitting_B140
                      have k759 : (5000 : Int32).toInt = 5000 := by decide
                      refine hKK680 _ ⟨rfl, (wt_nn (B := wt_ga z681.2.2 253 (Int32.toNatClampNeg x1)) (by omega) (by first | (rw [l683]; omega) | (rw [l683]; done) | omega))⟩ ?_
                      show ((wt_ga r671.2 253 (Int32.toNatClampNeg x1)).toInt - (z681.2.1 + (1 : Int32)).toInt + 0).toNat < ((wt_ga z681.2.2 253 (Int32.toNatClampNeg x1)).toInt - z681.2.1.toInt + 0).toNat
                      exact wt_mu (by first | (rw [l683]; omega) | (rw [l683]; done) | omega) (by first | (rw [l683]; omega) | (rw [l683]; done) | omega)
                  · skip
                    have c760 := wt_ncle h750
                    refine wt_T_bi (wq_md_isOf n hn z734.2.1 x1 z681.2.1 r671.2 ri674 (by omega) (by omega) (by omega) (by omega) (by omega) (by omega)) (fun r761 h762 => ?_)
                    have e763 := h762
                    have bb764 := wt_bd r761.1
                    rw [e763]
                    refine wt_T_if (fun h765 => ?_) (fun h765 => ?_)
                    · skip
                      have c766 := wt_ceq h765
                      unfold wp_md_fitting_B109
                      have bb767 := wt_bd z734.1
                      obtain ⟨j768, j768a, j768b⟩ := wt_addI z734.1 (0 : Int32)
                      refine hKK733 _ ⟨rfl, (wt_nn (B := wt_gf z734.2.2 108 28) (by omega) (by first | (rw [l736]; omega) | (rw [l736]; done) | omega))⟩ ?_
                      show ((wt_gf r671.2 108 28).toInt - (z734.2.1 + (1 : Int32)).toInt + 0).toNat < ((wt_gf z734.2.2 108 28).toInt - z734.2.1.toInt + 0).toNat
                      exact wt_mu (by first | (rw [l736]; omega) | (rw [l736]; done) | omega) (by first | (rw [l736]; omega) | (rw [l736]; done) | omega)
                    · skip
                      have c769 := wt_nceq h765
                      unfold wp_md_fitting_B109
                      have bb770 := wt_bd z734.1
                      obtain ⟨j771, j771a, j771b⟩ := wt_addI z734.1 (1 : Int32)
                      refine hKK733 _ ⟨rfl, (wt_nn (B := wt_gf z734.2.2 108 28) (by omega) (by first | (rw [l736]; omega) | (rw [l736]; done) | omega))⟩ ?_
                      show ((wt_gf r671.2 108 28).toInt - (z734.2.1 + (1 : Int32)).toInt + 0).toNat < ((wt_gf z734.2.2 108 28).toInt - z734.2.1.toInt + 0).toNat
                      exact wt_mu (by first | (rw [l736]; omega) | (rw [l736]; done) | omega) (by first | (rw [l736]; omega) | (rw [l736]; done) | omega)
                · skip
                  have bb772 := wt_bd (wt_gf r671.2 108 28)
                  have g773 : 0 ≤ (wt_gf r671.2 108 28).toInt ∧ (wt_gf r671.2 108 28).toInt ≤ 60 := wt_R_gf ri674 6 rfl
                  have tt774 : (wt_gf r671.2 108 28).toInt = (wt_gf r496.2 108 28).toInt := congrArg Int32.toInt (f673.1 108 28 (by (try dsimp only); omega))
                  have bb775 := wt_bd (wt_gf r496.2 108 28)
                  have g776 : 0 ≤ (wt_gf r496.2 108 28).toInt ∧ (wt_gf r496.2 108 28).toInt ≤ 60 := wt_R_gf ri499 6 rfl
                  have tt777 : (wt_gf r496.2 108 28).toInt = (wt_gf σ5 108 28).toInt := congrArg Int32.toInt (f498.1 108 28 (by (try dsimp only); omega))
                  have bb778 := wt_bd (wt_gf σ5 108 28)
                  have g779 : 0 ≤ (wt_gf σ5 108 28).toInt ∧ (wt_gf σ5 108 28).toInt ≤ 60 := wt_R_gf rσ5 6 rfl
                  have tt780 : (wt_gf σ5 108 28).toInt = (wt_gf σ 108 28).toInt := congrArg Int32.toInt (fσ5.1 108 28 (by (try dsimp only); omega))
                  have bb781 := wt_bd (wt_gf σ 108 28)
                  have g782 : 0 ≤ (wt_gf σ 108 28).toInt ∧ (wt_gf σ 108 28).toInt ≤ 60 := wt_R_gf r0 6 rfl
                  exact ⟨rfl, (show 0 ≤ ((0 : Int32)).toInt by omega)⟩
                · skip
                  have bb783 := wt_bd (wt_gf r671.2 108 28)
                  have g784 : 0 ≤ (wt_gf r671.2 108 28).toInt ∧ (wt_gf r671.2 108 28).toInt ≤ 60 := wt_R_gf ri674 6 rfl
                  have tt785 : (wt_gf r671.2 108 28).toInt = (wt_gf r496.2 108 28).toInt := congrArg Int32.toInt (f673.1 108 28 (by (try dsimp only); omega))
                  have bb786 := wt_bd (wt_gf r496.2 108 28)
                  have g787 : 0 ≤ (wt_gf r496.2 108 28).toInt ∧ (wt_gf r496.2 108 28).toInt ≤ 60 := wt_R_gf ri499 6 rfl
                  have tt788 : (wt_gf r496.2 108 28).toInt = (wt_gf σ5 108 28).toInt := congrArg Int32.toInt (f498.1 108 28 (by (try dsimp only); omega))
                  have bb789 := wt_bd (wt_gf σ5 108 28)
                  have g790 : 0 ≤ (wt_gf σ5 108 28).toInt ∧ (wt_gf σ5 108 28).toInt ≤ 60 := wt_R_gf rσ5 6 rfl
                  have tt791 : (wt_gf σ5 108 28).toInt = (wt_gf σ 108 28).toInt := congrArg Int32.toInt (fσ5.1 108 28 (by (try dsimp only); omega))
                  have bb792 := wt_bd (wt_gf σ 108 28)
                  have g793 : 0 ≤ (wt_gf σ 108 28).toInt ∧ (wt_gf σ 108 28).toInt ≤ 60 := wt_R_gf r0 6 rfl
                  show ((wt_gf r671.2 108 28).toInt - (0 : Int32).toInt + 0).toNat < n
                  omega
            · skip
              have bb794 := wt_tn x1
              have bb795 := wt_bd (wt_ga r671.2 253 (Int32.toNatClampNeg x1))
              have g796 : 0 ≤ (wt_ga r671.2 253 (Int32.toNatClampNeg x1)).toInt ∧ (wt_ga r671.2 253 (Int32.toNatClampNeg x1)).toInt ≤ 12 := wt_R_ga ri674 9 rfl 253 (by decide) (by decide) (Int32.toNatClampNeg x1)
              have tt797 : (wt_ga r671.2 253 (Int32.toNatClampNeg x1)).toInt = (wt_ga r496.2 253 (Int32.toNatClampNeg x1)).toInt := congrArg Int32.toInt (f673.2 253 (fun z => z) (Int32.toNatClampNeg x1))
              have bb798 := wt_bd (wt_ga r496.2 253 (Int32.toNatClampNeg x1))
              have g799 : 0 ≤ (wt_ga r496.2 253 (Int32.toNatClampNeg x1)).toInt ∧ (wt_ga r496.2 253 (Int32.toNatClampNeg x1)).toInt ≤ 12 := wt_R_ga ri499 9 rfl 253 (by decide) (by decide) (Int32.toNatClampNeg x1)
              have tt800 : (wt_ga r496.2 253 (Int32.toNatClampNeg x1)).toInt = (wt_ga σ5 253 (Int32.toNatClampNeg x1)).toInt := congrArg Int32.toInt (f498.2 253 (fun z => z) (Int32.toNatClampNeg x1))
              have bb801 := wt_bd (wt_ga σ5 253 (Int32.toNatClampNeg x1))
              have g802 : 0 ≤ (wt_ga σ5 253 (Int32.toNatClampNeg x1)).toInt ∧ (wt_ga σ5 253 (Int32.toNatClampNeg x1)).toInt ≤ 12 := wt_R_ga rσ5 9 rfl 253 (by decide) (by decide) (Int32.toNatClampNeg x1)
              have tt803 : (wt_ga σ5 253 (Int32.toNatClampNeg x1)).toInt = (wt_ga σ 253 (Int32.toNatClampNeg x1)).toInt := congrArg Int32.toInt (fσ5.2 253 (fun z => z) (Int32.toNatClampNeg x1))
              have bb804 := wt_bd (wt_ga σ 253 (Int32.toNatClampNeg x1))
              have g805 : 0 ≤ (wt_ga σ 253 (Int32.toNatClampNeg x1)).toInt ∧ (wt_ga σ 253 (Int32.toNatClampNeg x1)).toInt ≤ 12 := wt_R_ga r0 9 rfl 253 (by decide) (by decide) (Int32.toNatClampNeg x1)
              exact ⟨rfl, (show 0 ≤ ((0 : Int32)).toInt by omega)⟩
            · skip
              have bb806 := wt_tn x1
              have bb807 := wt_bd (wt_ga r671.2 253 (Int32.toNatClampNeg x1))
              have g808 : 0 ≤ (wt_ga r671.2 253 (Int32.toNatClampNeg x1)).toInt ∧ (wt_ga r671.2 253 (Int32.toNatClampNeg x1)).toInt ≤ 12 := wt_R_ga ri674 9 rfl 253 (by decide) (by decide) (Int32.toNatClampNeg x1)
              have tt809 : (wt_ga r671.2 253 (Int32.toNatClampNeg x1)).toInt = (wt_ga r496.2 253 (Int32.toNatClampNeg x1)).toInt := congrArg Int32.toInt (f673.2 253 (fun z => z) (Int32.toNatClampNeg x1))
              have bb810 := wt_bd (wt_ga r496.2 253 (Int32.toNatClampNeg x1))
              have g811 : 0 ≤ (wt_ga r496.2 253 (Int32.toNatClampNeg x1)).toInt ∧ (wt_ga r496.2 253 (Int32.toNatClampNeg x1)).toInt ≤ 12 := wt_R_ga ri499 9 rfl 253 (by decide) (by decide) (Int32.toNatClampNeg x1)
              have tt812 : (wt_ga r496.2 253 (Int32.toNatClampNeg x1)).toInt = (wt_ga σ5 253 (Int32.toNatClampNeg x1)).toInt := congrArg Int32.toInt (f498.2 253 (fun z => z) (Int32.toNatClampNeg x1))
              have bb813 := wt_bd (wt_ga σ5 253 (Int32.toNatClampNeg x1))
              have g814 : 0 ≤ (wt_ga σ5 253 (Int32.toNatClampNeg x1)).toInt ∧ (wt_ga σ5 253 (Int32.toNatClampNeg x1)).toInt ≤ 12 := wt_R_ga rσ5 9 rfl 253 (by decide) (by decide) (Int32.toNatClampNeg x1)
              have tt815 : (wt_ga σ5 253 (Int32.toNatClampNeg x1)).toInt = (wt_ga σ 253 (Int32.toNatClampNeg x1)).toInt := congrArg Int32.toInt (fσ5.2 253 (fun z => z) (Int32.toNatClampNeg x1))
              have bb816 := wt_bd (wt_ga σ 253 (Int32.toNatClampNeg x1))
              have g817 : 0 ≤ (wt_ga σ 253 (Int32.toNatClampNeg x1)).toInt ∧ (wt_ga σ 253 (Int32.toNatClampNeg x1)).toInt ≤ 12 := wt_R_ga r0 9 rfl 253 (by decide) (by decide) (Int32.toNatClampNeg x1)
              show ((wt_ga r671.2 253 (Int32.toNatClampNeg x1)).toInt - (0 : Int32).toInt + 0).toNat < n
              omega
          · skip
            have c818 := wt_nceq h678
            refine wt_T_some ?_
            exact ⟨(wt_fr.tr (wt_fr.tr (wt_fr.tr wt_fr.rf fσ5 (fun i k h => by (try dsimp only at h); exact Or.inl (by omega)) (fun i h => h.elim)) f498 (fun i k h => by (try dsimp only at h); exact Or.inl (by omega)) (fun i h => h.elim)) f673 (fun i k h => by (try dsimp only at h); exact Or.inl (by omega)) (fun i h => h.elim)), ri674⟩
        · skip
          have c819 := wt_nceq h668
          unfold wp_md_fitting_B49
          have k820 : (2 : Int32).toInt = 2 := by decide
          refine wt_T_bi (wq_md_bad n hn (0 : Int32) (2 : Int32) r496.2 ri499 (by omega)) (fun r821 h822 => ?_)
          obtain ⟨f823, ri824, pp825⟩ := h822
          have bb826 := wt_bd r821.1
          have bb827 := wt_bd (wt_gf r821.2 108 0)
          refine wt_T_if (fun h828 => ?_) (fun h828 => ?_)
          · skip
            have c829 := wt_ceq h828
            refine wt_T_it (fun s : Int32 × Int32 × wt_St => s.2.2 = r821.2 ∧ 0 ≤ (s.2.1).toInt) (fun s : Int32 × Int32 × wt_St => ((wt_ga s.2.2 253 (Int32.toNatClampNeg x1)).toInt - s.2.1.toInt + 0).toNat) (fun KK830 z831 I832 hKK830 => ?_) _ _ ?_ ?_
            · skip
              obtain ⟨l833, l834⟩ := I832
              unfold wp_md_fitting_B64
              rw [l833]
              have bb835 := wt_tn x1
              have bb836 := wt_bd (wt_ga r821.2 253 (Int32.toNatClampNeg x1))
              have g837 : 0 ≤ (wt_ga r821.2 253 (Int32.toNatClampNeg x1)).toInt ∧ (wt_ga r821.2 253 (Int32.toNatClampNeg x1)).toInt ≤ 12 := wt_R_ga ri824 9 rfl 253 (by decide) (by decide) (Int32.toNatClampNeg x1)
              have tt838 : (wt_ga r821.2 253 (Int32.toNatClampNeg x1)).toInt = (wt_ga r496.2 253 (Int32.toNatClampNeg x1)).toInt := congrArg Int32.toInt (f823.2 253 (fun z => z) (Int32.toNatClampNeg x1))
              have bb839 := wt_bd (wt_ga r496.2 253 (Int32.toNatClampNeg x1))
              have g840 : 0 ≤ (wt_ga r496.2 253 (Int32.toNatClampNeg x1)).toInt ∧ (wt_ga r496.2 253 (Int32.toNatClampNeg x1)).toInt ≤ 12 := wt_R_ga ri499 9 rfl 253 (by decide) (by decide) (Int32.toNatClampNeg x1)
              have tt841 : (wt_ga r496.2 253 (Int32.toNatClampNeg x1)).toInt = (wt_ga σ5 253 (Int32.toNatClampNeg x1)).toInt := congrArg Int32.toInt (f498.2 253 (fun z => z) (Int32.toNatClampNeg x1))
              have bb842 := wt_bd (wt_ga σ5 253 (Int32.toNatClampNeg x1))
              have g843 : 0 ≤ (wt_ga σ5 253 (Int32.toNatClampNeg x1)).toInt ∧ (wt_ga σ5 253 (Int32.toNatClampNeg x1)).toInt ≤ 12 := wt_R_ga rσ5 9 rfl 253 (by decide) (by decide) (Int32.toNatClampNeg x1)
              have tt844 : (wt_ga σ5 253 (Int32.toNatClampNeg x1)).toInt = (wt_ga σ 253 (Int32.toNatClampNeg x1)).toInt := congrArg Int32.toInt (fσ5.2 253 (fun z => z) (Int32.toNatClampNeg x1))
              have bb845 := wt_bd (wt_ga σ 253 (Int32.toNatClampNeg x1))
              have g846 : 0 ≤ (wt_ga σ 253 (Int32.toNatClampNeg x1)).toInt ∧ (wt_ga σ 253 (Int32.toNatClampNeg x1)).toInt ≤ 12 := wt_R_ga r0 9 rfl 253 (by decide) (by decide) (Int32.toNatClampNeg x1)
              have bb847 := wt_bd z831.2.1
              refine wt_T_gd (wt_ix (by omega) (by omega)) ?_
              refine wt_T_if (fun h848 => ?_) (fun h848 => ?_)
              · skip
                have c849 := wt_cle h848
                have bb850 := wt_bd z831.1
                have k851 : (4096 : Int32).toInt = 4096 := by decide
                refine wt_T_if (fun h852 => ?_) (fun h852 => ?_)
                · skip
                  have c853 := wt_cle h852
                  obtain ⟨σ854, eσ854⟩ : ∃ z : wt_St, z = wt_sf r821.2 108 60 (-1 : Int32) := ⟨_, rfl⟩
                  rw [← eσ854]
                  have fσ854 := wt_fr_sf eσ854
                  have vσ854 := wt_ceq (wt_v_sf eσ854)
                  have rσ854 := wt_RI_fno ri824 eσ854 (Or.inr (by decide))
                  have bb855 := wt_bd (wt_ga σ854 253 (Int32.toNatClampNeg x1))
                  have g856 : 0 ≤ (wt_ga σ854 253 (Int32.toNatClampNeg x1)).toInt ∧ (wt_ga σ854 253 (Int32.toNatClampNeg x1)).toInt ≤ 12 := wt_R_ga rσ854 9 rfl 253 (by decide) (by decide) (Int32.toNatClampNeg x1)
                  have tt857 : (wt_ga σ854 253 (Int32.toNatClampNeg x1)).toInt = (wt_ga r821.2 253 (Int32.toNatClampNeg x1)).toInt := congrArg Int32.toInt (fσ854.2 253 (fun z => z) (Int32.toNatClampNeg x1))
                  refine wt_T_bi (wq_md_tries n hn x1 (0 : Int32) x2 (0 : Int32) σ854 rσ854 (by omega) (by omega) (by omega) (by omega)) (fun r858 h859 => ?_)
                  obtain ⟨f860, ri861⟩ := h859
                  refine wt_T_if (fun h862 => ?_) (fun h862 => ?_)
                  · skip
                    have c863 := wt_ceq h862
                    unfold wp_md_fitting_B185
                    refine wt_T_some ?_
                    exact ⟨(wt_fr.tr (wt_fr.tr (wt_fr.tr (wt_fr.tr (wt_fr.tr wt_fr.rf fσ5 (fun i k h => by (try dsimp only at h); exact Or.inl (by omega)) (fun i h => h.elim)) f498 (fun i k h => by (try dsimp only at h); exact Or.inl (by omega)) (fun i h => h.elim)) f823 (fun i k h => by (try dsimp only at h); exact Or.inl (by omega)) (fun i h => h.elim)) fσ854 (fun i k h => by (try dsimp only at h); exact Or.inr ((by omega))) (fun i h => h.elim)) f860 (fun i k h => by (try dsimp only at h); exact Or.inr ((by omega))) (fun i h => by (try dsimp only at h); rcases h with h | h | h; exact Or.inl (by omega); exact Or.inr (Or.inl (by omega)); exact Or.inr (Or.inr ((by omega))))), ri861⟩
                  · skip
                    have c864 := wt_nceq h862
                    have bb865 := wt_bd (wt_gf r858 108 60)
                    refine wt_T_if (fun h866 => ?_) (fun h866 => ?_)
                    · skip
                      have c867 := wt_ceq h866
                      rw [wt_lm1] at c867
                      unfold wp_md_fitting_B185
                      refine wt_T_some ?_
                      exact ⟨(wt_fr.tr (wt_fr.tr (wt_fr.tr (wt_fr.tr (wt_fr.tr wt_fr.rf fσ5 (fun i k h => by (try dsimp only at h); exact Or.inl (by omega)) (fun i h => h.elim)) f498 (fun i k h => by (try dsimp only at h); exact Or.inl (by omega)) (fun i h => h.elim)) f823 (fun i k h => by (try dsimp only at h); exact Or.inl (by omega)) (fun i h => h.elim)) fσ854 (fun i k h => by (try dsimp only at h); exact Or.inr ((by omega))) (fun i h => h.elim)) f860 (fun i k h => by (try dsimp only at h); exact Or.inr ((by omega))) (fun i h => by (try dsimp only at h); rcases h with h | h | h; exact Or.inl (by omega); exact Or.inr (Or.inl (by omega)); exact Or.inr (Or.inr ((by omega))))), ri861⟩
                    · skip
                      have c868 := wt_nceq h866
                      rw [wt_lm1] at c868
                      refine wt_T_gd (wt_ix (by omega) (by omega)) ?_
                      have bb869 := wt_bd (wt_ga r858 253 (Int32.toNatClampNeg x1))
                      have g870 : 0 ≤ (wt_ga r858 253 (Int32.toNatClampNeg x1)).toInt ∧ (wt_ga r858 253 (Int32.toNatClampNeg x1)).toInt ≤ 12 := wt_R_ga ri861 9 rfl 253 (by decide) (by decide) (Int32.toNatClampNeg x1)
                      have tt871 : (wt_ga r858 253 (Int32.toNatClampNeg x1)).toInt = (wt_ga σ854 253 (Int32.toNatClampNeg x1)).toInt := congrArg Int32.toInt (f860.2 253 (by (try dsimp only); omega) (Int32.toNatClampNeg x1))
                      obtain ⟨j872, j872a, j872b⟩ := wt_subI (wt_ga r858 253 (Int32.toNatClampNeg x1)) (1 : Int32)
                      refine wt_T_bi (wq_md_in n hn x3 (0 : Int32) ((wt_ga r858 253 (Int32.toNatClampNeg x1)) - (1 : Int32)) r858 ri861) (fun r873 h874 => ?_)
                      obtain ⟨e875, pp876⟩ := h874
                      have bb877 := wt_bd r873.1
                      rw [e875]
                      refine wt_T_if (fun h878 => ?_) (fun h878 => ?_)
                      · skip
                        have c879 := wt_ceq h878
                        refine wt_T_some ?_
                        exact ⟨(wt_fr.tr (wt_fr.tr (wt_fr.tr (wt_fr.tr (wt_fr.tr wt_fr.rf fσ5 (fun i k h => by (try dsimp only at h); exact Or.inl (by omega)) (fun i h => h.elim)) f498 (fun i k h => by (try dsimp only at h); exact Or.inl (by omega)) (fun i h => h.elim)) f823 (fun i k h => by (try dsimp only at h); exact Or.inl (by omega)) (fun i h => h.elim)) fσ854 (fun i k h => by (try dsimp only at h); exact Or.inr ((by omega))) (fun i h => h.elim)) f860 (fun i k h => by (try dsimp only at h); exact Or.inr ((by omega))) (fun i h => by (try dsimp only at h); rcases h with h | h | h; exact Or.inl (by omega); exact Or.inr (Or.inl (by omega)); exact Or.inr (Or.inr ((by omega))))), ri861⟩
                      · skip
                        have c880 := wt_nceq h878
                        refine wt_T_gd (wt_ix (by omega) (by omega)) ?_
                        refine wt_T_some ?_
                        exact ⟨(wt_fr.tr (wt_fr.tr (wt_fr.tr (wt_fr.tr (wt_fr.tr wt_fr.rf fσ5 (fun i k h => by (try dsimp only at h); exact Or.inl (by omega)) (fun i h => h.elim)) f498 (fun i k h => by (try dsimp only at h); exact Or.inl (by omega)) (fun i h => h.elim)) f823 (fun i k h => by (try dsimp only at h); exact Or.inl (by omega)) (fun i h => h.elim)) fσ854 (fun i k h => by (try dsimp only at h); exact Or.inr ((by omega))) (fun i h => h.elim)) f860 (fun i k h => by (try dsimp only at h); exact Or.inr ((by omega))) (fun i h => by (try dsimp only at h); rcases h with h | h | h; exact Or.inl (by omega); exact Or.inr (Or.inl (by omega)); exact Or.inr (Or.inr ((by omega))))), ri861⟩
                · skip
                  have c881 := wt_ncle h852
                  refine wt_T_some ?_
                  exact ⟨(wt_fr.tr (wt_fr.tr (wt_fr.tr wt_fr.rf fσ5 (fun i k h => by (try dsimp only at h); exact Or.inl (by omega)) (fun i h => h.elim)) f498 (fun i k h => by (try dsimp only at h); exact Or.inl (by omega)) (fun i h => h.elim)) f823 (fun i k h => by (try dsimp only at h); exact Or.inl (by omega)) (fun i h => h.elim)), ri824⟩
              · skip
                have c882 := wt_ncle h848
                refine wt_T_it (fun s : Int32 × Int32 × wt_St => s.2.2 = r821.2 ∧ 0 ≤ (s.2.1).toInt) (fun s : Int32 × Int32 × wt_St => ((wt_gf s.2.2 108 28).toInt - s.2.1.toInt + 0).toNat) (fun KK883 z884 I885 hKK883 => ?_) _ _ ?_ ?_
                · skip
                  obtain ⟨l886, l887⟩ := I885
                  unfold wp_md_fitting_B81
                  rw [l886]
                  have bb888 := wt_bd (wt_gf r821.2 108 28)
                  have g889 : 0 ≤ (wt_gf r821.2 108 28).toInt ∧ (wt_gf r821.2 108 28).toInt ≤ 60 := wt_R_gf ri824 6 rfl
                  have tt890 : (wt_gf r821.2 108 28).toInt = (wt_gf r496.2 108 28).toInt := congrArg Int32.toInt (f823.1 108 28 (by (try dsimp only); omega))
                  have bb891 := wt_bd (wt_gf r496.2 108 28)
                  have g892 : 0 ≤ (wt_gf r496.2 108 28).toInt ∧ (wt_gf r496.2 108 28).toInt ≤ 60 := wt_R_gf ri499 6 rfl
                  have tt893 : (wt_gf r496.2 108 28).toInt = (wt_gf σ5 108 28).toInt := congrArg Int32.toInt (f498.1 108 28 (by (try dsimp only); omega))
                  have bb894 := wt_bd (wt_gf σ5 108 28)
                  have g895 : 0 ≤ (wt_gf σ5 108 28).toInt ∧ (wt_gf σ5 108 28).toInt ≤ 60 := wt_R_gf rσ5 6 rfl
                  have tt896 : (wt_gf σ5 108 28).toInt = (wt_gf σ 108 28).toInt := congrArg Int32.toInt (fσ5.1 108 28 (by (try dsimp only); omega))
                  have bb897 := wt_bd (wt_gf σ 108 28)
                  have g898 : 0 ≤ (wt_gf σ 108 28).toInt ∧ (wt_gf σ 108 28).toInt ≤ 60 := wt_R_gf r0 6 rfl
                  have bb899 := wt_bd z884.2.1
                  refine wt_T_if (fun h900 => ?_) (fun h900 => ?_)
                  · skip
                    have c901 := wt_cle h900
                    have bb902 := wt_bd z831.1
                    have bb903 := wt_bd z884.1
                    obtain ⟨j904, j904a, j904b⟩ := wt_mulI z831.1 z884.1
                    have k905 : (4096 : Int32).toInt = 4096 := by decide
                    refine wt_T_if (fun h906 => ?_) (fun h906 => ?_)
                    · skip
                      have c907 := wt_cle h906
                      unfold wp_md_fitting_B140
                      refine hKK830 _ ⟨rfl, (wt_nn (B := wt_ga z831.2.2 253 (Int32.toNatClampNeg x1)) (by omega) (by first | (rw [l833]; omega) | (rw [l833]; done) | omega))⟩ ?_
                      show ((wt_ga r821.2 253 (Int32.toNatClampNeg x1)).toInt - (z831.2.1 + (1 : Int32)).toInt + 0).toNat < ((wt_ga z831.2.2 253 (Int32.toNatClampNeg x1)).toInt - z831.2.1.toInt + 0).toNat
                      exact wt_mu (by first | (rw [l833]; omega) | (rw [l833]; done) | omega) (by first | (rw [l833]; omega) | (rw [l833]; done) | omega)
                    · skip
                      have c908 := wt_ncle h906
                      unfold wp_md_fitting_B140
                      have k909 : (5000 : Int32).toInt = 5000 := by decide
                      refine hKK830 _ ⟨rfl, (wt_nn (B := wt_ga z831.2.2 253 (Int32.toNatClampNeg x1)) (by omega) (by first | (rw [l833]; omega) | (rw [l833]; done) | omega))⟩ ?_
                      show ((wt_ga r821.2 253 (Int32.toNatClampNeg x1)).toInt - (z831.2.1 + (1 : Int32)).toInt + 0).toNat < ((wt_ga z831.2.2 253 (Int32.toNatClampNeg x1)).toInt - z831.2.1.toInt + 0).toNat
                      exact wt_mu (by first | (rw [l833]; omega) | (rw [l833]; done) | omega) (by first | (rw [l833]; omega) | (rw [l833]; done) | omega)
                  · skip
                    have c910 := wt_ncle h900
                    refine wt_T_bi (wq_md_isOf n hn z884.2.1 x1 z831.2.1 r821.2 ri824 (by omega) (by omega) (by omega) (by omega) (by omega) (by omega)) (fun r911 h912 => ?_)
                    have e913 := h912
                    have bb914 := wt_bd r911.1
                    rw [e913]
                    refine wt_T_if (fun h915 => ?_) (fun h915 => ?_)
                    · skip
                      have c916 := wt_ceq h915
                      unfold wp_md_fitting_B109
                      have bb917 := wt_bd z884.1
                      obtain ⟨j918, j918a, j918b⟩ := wt_addI z884.1 (0 : Int32)
                      refine hKK883 _ ⟨rfl, (wt_nn (B := wt_gf z884.2.2 108 28) (by omega) (by first | (rw [l886]; omega) | (rw [l886]; done) | omega))⟩ ?_
                      show ((wt_gf r821.2 108 28).toInt - (z884.2.1 + (1 : Int32)).toInt + 0).toNat < ((wt_gf z884.2.2 108 28).toInt - z884.2.1.toInt + 0).toNat
                      exact wt_mu (by first | (rw [l886]; omega) | (rw [l886]; done) | omega) (by first | (rw [l886]; omega) | (rw [l886]; done) | omega)
                    · skip
                      have c919 := wt_nceq h915
                      unfold wp_md_fitting_B109
                      have bb920 := wt_bd z884.1
                      obtain ⟨j921, j921a, j921b⟩ := wt_addI z884.1 (1 : Int32)
                      refine hKK883 _ ⟨rfl, (wt_nn (B := wt_gf z884.2.2 108 28) (by omega) (by first | (rw [l886]; omega) | (rw [l886]; done) | omega))⟩ ?_
                      show ((wt_gf r821.2 108 28).toInt - (z884.2.1 + (1 : Int32)).toInt + 0).toNat < ((wt_gf z884.2.2 108 28).toInt - z884.2.1.toInt + 0).toNat
                      exact wt_mu (by first | (rw [l886]; omega) | (rw [l886]; done) | omega) (by first | (rw [l886]; omega) | (rw [l886]; done) | omega)
                · skip
                  have bb922 := wt_bd (wt_gf r821.2 108 28)
                  have g923 : 0 ≤ (wt_gf r821.2 108 28).toInt ∧ (wt_gf r821.2 108 28).toInt ≤ 60 := wt_R_gf ri824 6 rfl
                  have tt924 : (wt_gf r821.2 108 28).toInt = (wt_gf r496.2 108 28).toInt := congrArg Int32.toInt (f823.1 108 28 (by (try dsimp only); omega))
                  have bb925 := wt_bd (wt_gf r496.2 108 28)
                  have g926 : 0 ≤ (wt_gf r496.2 108 28).toInt ∧ (wt_gf r496.2 108 28).toInt ≤ 60 := wt_R_gf ri499 6 rfl
                  have tt927 : (wt_gf r496.2 108 28).toInt = (wt_gf σ5 108 28).toInt := congrArg Int32.toInt (f498.1 108 28 (by (try dsimp only); omega))
                  have bb928 := wt_bd (wt_gf σ5 108 28)
                  have g929 : 0 ≤ (wt_gf σ5 108 28).toInt ∧ (wt_gf σ5 108 28).toInt ≤ 60 := wt_R_gf rσ5 6 rfl
                  have tt930 : (wt_gf σ5 108 28).toInt = (wt_gf σ 108 28).toInt := congrArg Int32.toInt (fσ5.1 108 28 (by (try dsimp only); omega))
                  have bb931 := wt_bd (wt_gf σ 108 28)
                  have g932 : 0 ≤ (wt_gf σ 108 28).toInt ∧ (wt_gf σ 108 28).toInt ≤ 60 := wt_R_gf r0 6 rfl
                  exact ⟨rfl, (show 0 ≤ ((0 : Int32)).toInt by omega)⟩
                · skip
                  have bb933 := wt_bd (wt_gf r821.2 108 28)
                  have g934 : 0 ≤ (wt_gf r821.2 108 28).toInt ∧ (wt_gf r821.2 108 28).toInt ≤ 60 := wt_R_gf ri824 6 rfl
                  have tt935 : (wt_gf r821.2 108 28).toInt = (wt_gf r496.2 108 28).toInt := congrArg Int32.toInt (f823.1 108 28 (by (try dsimp only); omega))
                  have bb936 := wt_bd (wt_gf r496.2 108 28)
                  have g937 : 0 ≤ (wt_gf r496.2 108 28).toInt ∧ (wt_gf r496.2 108 28).toInt ≤ 60 := wt_R_gf ri499 6 rfl
                  have tt938 : (wt_gf r496.2 108 28).toInt = (wt_gf σ5 108 28).toInt := congrArg Int32.toInt (f498.1 108 28 (by (try dsimp only); omega))
                  have bb939 := wt_bd (wt_gf σ5 108 28)
                  have g940 : 0 ≤ (wt_gf σ5 108 28).toInt ∧ (wt_gf σ5 108 28).toInt ≤ 60 := wt_R_gf rσ5 6 rfl
                  have tt941 : (wt_gf σ5 108 28).toInt = (wt_gf σ 108 28).toInt := congrArg Int32.toInt (fσ5.1 108 28 (by (try dsimp only); omega))
                  have bb942 := wt_bd (wt_gf σ 108 28)
                  have g943 : 0 ≤ (wt_gf σ 108 28).toInt ∧ (wt_gf σ 108 28).toInt ≤ 60 := wt_R_gf r0 6 rfl
                  show ((wt_gf r821.2 108 28).toInt - (0 : Int32).toInt + 0).toNat < n
                  omega
            · skip
              have bb944 := wt_tn x1
              have bb945 := wt_bd (wt_ga r821.2 253 (Int32.toNatClampNeg x1))
              have g946 : 0 ≤ (wt_ga r821.2 253 (Int32.toNatClampNeg x1)).toInt ∧ (wt_ga r821.2 253 (Int32.toNatClampNeg x1)).toInt ≤ 12 := wt_R_ga ri824 9 rfl 253 (by decide) (by decide) (Int32.toNatClampNeg x1)
              have tt947 : (wt_ga r821.2 253 (Int32.toNatClampNeg x1)).toInt = (wt_ga r496.2 253 (Int32.toNatClampNeg x1)).toInt := congrArg Int32.toInt (f823.2 253 (fun z => z) (Int32.toNatClampNeg x1))
              have bb948 := wt_bd (wt_ga r496.2 253 (Int32.toNatClampNeg x1))
              have g949 : 0 ≤ (wt_ga r496.2 253 (Int32.toNatClampNeg x1)).toInt ∧ (wt_ga r496.2 253 (Int32.toNatClampNeg x1)).toInt ≤ 12 := wt_R_ga ri499 9 rfl 253 (by decide) (by decide) (Int32.toNatClampNeg x1)
              have tt950 : (wt_ga r496.2 253 (Int32.toNatClampNeg x1)).toInt = (wt_ga σ5 253 (Int32.toNatClampNeg x1)).toInt := congrArg Int32.toInt (f498.2 253 (fun z => z) (Int32.toNatClampNeg x1))
              have bb951 := wt_bd (wt_ga σ5 253 (Int32.toNatClampNeg x1))
              have g952 : 0 ≤ (wt_ga σ5 253 (Int32.toNatClampNeg x1)).toInt ∧ (wt_ga σ5 253 (Int32.toNatClampNeg x1)).toInt ≤ 12 := wt_R_ga rσ5 9 rfl 253 (by decide) (by decide) (Int32.toNatClampNeg x1)
              have tt953 : (wt_ga σ5 253 (Int32.toNatClampNeg x1)).toInt = (wt_ga σ 253 (Int32.toNatClampNeg x1)).toInt := congrArg Int32.toInt (fσ5.2 253 (fun z => z) (Int32.toNatClampNeg x1))
              have bb954 := wt_bd (wt_ga σ 253 (Int32.toNatClampNeg x1))
              have g955 : 0 ≤ (wt_ga σ 253 (Int32.toNatClampNeg x1)).toInt ∧ (wt_ga σ 253 (Int32.toNatClampNeg x1)).toInt ≤ 12 := wt_R_ga r0 9 rfl 253 (by decide) (by decide) (Int32.toNatClampNeg x1)
              exact ⟨rfl, (show 0 ≤ ((0 : Int32)).toInt by omega)⟩
            · skip
              have bb956 := wt_tn x1
              have bb957 := wt_bd (wt_ga r821.2 253 (Int32.toNatClampNeg x1))
              have g958 : 0 ≤ (wt_ga r821.2 253 (Int32.toNatClampNeg x1)).toInt ∧ (wt_ga r821.2 253 (Int32.toNatClampNeg x1)).toInt ≤ 12 := wt_R_ga ri824 9 rfl 253 (by decide) (by decide) (Int32.toNatClampNeg x1)
              have tt959 : (wt_ga r821.2 253 (Int32.toNatClampNeg x1)).toInt = (wt_ga r496.2 253 (Int32.toNatClampNeg x1)).toInt := congrArg Int32.toInt (f823.2 253 (fun z => z) (Int32.toNatClampNeg x1))
              have bb960 := wt_bd (wt_ga r496.2 253 (Int32.toNatClampNeg x1))
              have g961 : 0 ≤ (wt_ga r496.2 253 (Int32.toNatClampNeg x1)).toInt ∧ (wt_ga r496.2 253 (Int32.toNatClampNeg x1)).toInt ≤ 12 := wt_R_ga ri499 9 rfl 253 (by decide) (by decide) (Int32.toNatClampNeg x1)
              have tt962 : (wt_ga r496.2 253 (Int32.toNatClampNeg x1)).toInt = (wt_ga σ5 253 (Int32.toNatClampNeg x1)).toInt := congrArg Int32.toInt (f498.2 253 (fun z => z) (Int32.toNatClampNeg x1))
              have bb963 := wt_bd (wt_ga σ5 253 (Int32.toNatClampNeg x1))
              have g964 : 0 ≤ (wt_ga σ5 253 (Int32.toNatClampNeg x1)).toInt ∧ (wt_ga σ5 253 (Int32.toNatClampNeg x1)).toInt ≤ 12 := wt_R_ga rσ5 9 rfl 253 (by decide) (by decide) (Int32.toNatClampNeg x1)
              have tt965 : (wt_ga σ5 253 (Int32.toNatClampNeg x1)).toInt = (wt_ga σ 253 (Int32.toNatClampNeg x1)).toInt := congrArg Int32.toInt (fσ5.2 253 (fun z => z) (Int32.toNatClampNeg x1))
              have bb966 := wt_bd (wt_ga σ 253 (Int32.toNatClampNeg x1))
              have g967 : 0 ≤ (wt_ga σ 253 (Int32.toNatClampNeg x1)).toInt ∧ (wt_ga σ 253 (Int32.toNatClampNeg x1)).toInt ≤ 12 := wt_R_ga r0 9 rfl 253 (by decide) (by decide) (Int32.toNatClampNeg x1)
              show ((wt_ga r821.2 253 (Int32.toNatClampNeg x1)).toInt - (0 : Int32).toInt + 0).toNat < n
              omega
          · skip
            have c968 := wt_nceq h828
            refine wt_T_some ?_
            exact ⟨(wt_fr.tr (wt_fr.tr (wt_fr.tr wt_fr.rf fσ5 (fun i k h => by (try dsimp only at h); exact Or.inl (by omega)) (fun i h => h.elim)) f498 (fun i k h => by (try dsimp only at h); exact Or.inl (by omega)) (fun i h => h.elim)) f823 (fun i k h => by (try dsimp only at h); exact Or.inl (by omega)) (fun i h => h.elim)), ri824⟩
    · skip
      have c969 := wt_nceq h504
      refine wt_T_some ?_
      exact ⟨(wt_fr.tr (wt_fr.tr wt_fr.rf fσ5 (fun i k h => by (try dsimp only at h); exact Or.inl (by omega)) (fun i h => h.elim)) f498 (fun i k h => by (try dsimp only at h); exact Or.inl (by omega)) (fun i h => h.elim)), ri499⟩
set_option maxRecDepth 100000 in
set_option maxHeartbeats 4000000 in
theorem wq_md_forget (n : Nat) (hn : 4294967297 < n) (σ : wt_St) (r0 : wt_RI σ) : wt_T (wp_md_forget n σ) (fun q => wt_fr (fun i k => (i = 108 ∧ k = 0) ∨ (i = 108 ∧ k = 40)) (fun i => False) σ q.2 ∧ wt_RI q.2) := by
  unfold wp_md_forget
  obtain ⟨σ1, eσ1⟩ : ∃ z : wt_St, z = wt_sf σ 108 0 (0 : Int32) := ⟨_, rfl⟩
  rw [← eσ1]
  have fσ1 := wt_fr_sf eσ1
  have vσ1 := wt_ceq (wt_v_sf eσ1)
  have k2 : (0 : Int32).toInt = 0 := by decide
  have rσ1 := wt_RI_fno r0 eσ1 (Or.inr (by decide))
  obtain ⟨σ3, eσ3⟩ : ∃ z : wt_St, z = wt_sf σ1 108 40 (0 : Int32) := ⟨_, rfl⟩
  rw [← eσ3]
  have fσ3 := wt_fr_sf eσ3
  have vσ3 := wt_ceq (wt_v_sf eσ3)
  have rσ3 := wt_RI_fin rσ1 eσ3 8 rfl rfl (show 0 ≤ ((0 : Int32)).toInt by omega) (show ((0 : Int32)).toInt ≤ 10 by omega)
  refine wt_T_some ?_
  exact ⟨(wt_fr.tr (wt_fr.tr wt_fr.rf fσ1 (fun i k h => by (try dsimp only at h); exact Or.inl (by omega)) (fun i h => h.elim)) fσ3 (fun i k h => by (try dsimp only at h); exact Or.inr ((by omega))) (fun i h => h.elim)), rσ3⟩
set_option maxRecDepth 100000 in
set_option maxHeartbeats 4000000 in
theorem wq_md_worthOf (n : Nat) (hn : 4294967297 < n) (x1 : Int32) (σ : wt_St) (r0 : wt_RI σ) : wt_T (wp_md_worthOf n x1 σ) (fun q => q.2 = σ) := by
  have bb1 := wt_bd x1
  unfold wp_md_worthOf
  have k7 : (0 : Int32).toInt = 0 := by decide
  refine wt_T_it (fun s : Int32 × Int32 × wt_St => s.2.2 = σ ∧ 0 ≤ (s.2.1).toInt) (fun s : Int32 × Int32 × wt_St => ((wt_gf s.2.2 108 40).toInt - s.2.1.toInt + 0).toNat) (fun KK2 z3 I4 hKK2 => ?_) _ _ ?_ ?_
  · skip
    obtain ⟨l5, l6⟩ := I4
    unfold wp_md_worthOf_B4
    rw [l5]
    have bb8 := wt_bd (wt_gf σ 108 40)
    have g9 : 0 ≤ (wt_gf σ 108 40).toInt ∧ (wt_gf σ 108 40).toInt ≤ 10 := wt_R_gf r0 8 rfl
    have bb10 := wt_bd z3.2.1
    refine wt_T_if (fun h11 => ?_) (fun h11 => ?_)
    · skip
      have c12 := wt_cle h11
      refine wt_T_some ?_
      exact rfl
    · skip
      have c13 := wt_ncle h11
      have k14 : (31 : Int32).toInt = 31 := by decide
      have bb15 := wt_bd (z3.2.1 &&& 31)
      have bb16 := wt_bd (x1 >>> (z3.2.1 &&& 31))
      have k17 : (1 : Int32).toInt = 1 := by decide
      have bb18 := wt_bd ((x1 >>> (z3.2.1 &&& 31)) &&& (1 : Int32))
      refine wt_T_if (fun h19 => ?_) (fun h19 => ?_)
      · skip
        have c20 := wt_ceq h19
        refine wt_T_gd (wt_ix (by omega) (by omega)) ?_
        have k21 : (3 : Int32).toInt = 3 := by decide
        refine wt_T_gd (wt_ix (by omega) (by omega)) ?_
        unfold wp_md_worthOf_B34
        have bb22 := wt_bd z3.1
        have bb23 := wt_tn z3.2.1
        have bb24 := wt_tn (3 : Int32)
        have bb25 := wt_bd (wt_ga σ (264 + (Int32.toNatClampNeg z3.2.1)) (Int32.toNatClampNeg (3 : Int32)))
        obtain ⟨j26, j26a, j26b⟩ := wt_addI z3.1 (wt_ga σ (264 + (Int32.toNatClampNeg z3.2.1)) (Int32.toNatClampNeg (3 : Int32)))
        refine hKK2 _ ⟨rfl, (wt_nn (B := wt_gf z3.2.2 108 40) (by omega) (by first | (rw [l5]; omega) | (rw [l5]; done) | omega))⟩ ?_
        show ((wt_gf σ 108 40).toInt - (z3.2.1 + (1 : Int32)).toInt + 0).toNat < ((wt_gf z3.2.2 108 40).toInt - z3.2.1.toInt + 0).toNat
        exact wt_mu (by first | (rw [l5]; omega) | (rw [l5]; done) | omega) (by first | (rw [l5]; omega) | (rw [l5]; done) | omega)
      · skip
        have c27 := wt_nceq h19
        unfold wp_md_worthOf_B34
        have bb28 := wt_bd z3.1
        obtain ⟨j29, j29a, j29b⟩ := wt_addI z3.1 (0 : Int32)
        refine hKK2 _ ⟨rfl, (wt_nn (B := wt_gf z3.2.2 108 40) (by omega) (by first | (rw [l5]; omega) | (rw [l5]; done) | omega))⟩ ?_
        show ((wt_gf σ 108 40).toInt - (z3.2.1 + (1 : Int32)).toInt + 0).toNat < ((wt_gf z3.2.2 108 40).toInt - z3.2.1.toInt + 0).toNat
        exact wt_mu (by first | (rw [l5]; omega) | (rw [l5]; done) | omega) (by first | (rw [l5]; omega) | (rw [l5]; done) | omega)
  · skip
    have bb30 := wt_bd (wt_gf σ 108 40)
    have g31 : 0 ≤ (wt_gf σ 108 40).toInt ∧ (wt_gf σ 108 40).toInt ≤ 10 := wt_R_gf r0 8 rfl
    exact ⟨rfl, (show 0 ≤ ((0 : Int32)).toInt by omega)⟩
  · skip
    have bb32 := wt_bd (wt_gf σ 108 40)
    have g33 : 0 ≤ (wt_gf σ 108 40).toInt ∧ (wt_gf σ 108 40).toInt ≤ 10 := wt_R_gf r0 8 rfl
    show ((wt_gf σ 108 40).toInt - (0 : Int32).toInt + 0).toNat < n
    omega
set_option maxRecDepth 100000 in
set_option maxHeartbeats 4000000 in
theorem wq_md_greedy (n : Nat) (hn : 4294967297 < n) (x1 : Int32) (σ : wt_St) (r0 : wt_RI σ) : wt_T (wp_md_greedy n x1 σ) (fun q => wt_fr (fun i k => (i = 108 ∧ k = 0) ∨ (i = 108 ∧ k = 54)) (fun i => i = 286 ∨ i = 287 ∨ i = 124 ∨ i = 288 ∨ i = 121) σ q.2 ∧ wt_RI q.2) := by
  have bb1 := wt_bd x1
  unfold wp_md_greedy
  obtain ⟨σ2, eσ2⟩ : ∃ z : wt_St, z = wt_sf σ 108 0 (0 : Int32) := ⟨_, rfl⟩
  rw [← eσ2]
  have fσ2 := wt_fr_sf eσ2
  have vσ2 := wt_ceq (wt_v_sf eσ2)
  have k3 : (0 : Int32).toInt = 0 := by decide
  have rσ2 := wt_RI_fno r0 eσ2 (Or.inr (by decide))
  have k4 : (1 : Int32).toInt = 1 := by decide
  refine wt_T_bi (wq_md_in n hn x1 (0 : Int32) (1 : Int32) σ2 rσ2) (fun r5 h6 => ?_)
  obtain ⟨e7, pp8⟩ := h6
  have bb9 := wt_bd r5.1
  rw [e7]
  refine wt_T_if (fun h10 => ?_) (fun h10 => ?_)
  · skip
    have c11 := wt_ceq h10
    unfold wp_md_greedy_B20
    refine wt_T_bi (wq_md_bad n hn (1 : Int32) (1 : Int32) σ2 rσ2 (by omega)) (fun r12 h13 => ?_)
    obtain ⟨f14, ri15, pp16⟩ := h13
    have bb17 := wt_bd r12.1
    have bb18 := wt_bd (wt_gf r12.2 108 0)
    have bb19 := wt_bd (wt_gf σ2 108 0)
    refine wt_T_if (fun h20 => ?_) (fun h20 => ?_)
    · skip
      have c21 := wt_ceq h20
      have k22 : (100 : Int32).toInt = 100 := by decide
      refine wt_T_bi (wq_md_greedyAhead n hn (100 : Int32) r12.2 ri15) (fun r23 h24 => ?_)
      obtain ⟨f25, ri26⟩ := h24
      have bb27 := wt_bd r23.1
      refine wt_T_bi (wq_md_putsBack n hn r23.2 ri26) (fun r28 h29 => ?_)
      obtain ⟨f30, ri31⟩ := h29
      refine wt_T_if (fun h32 => ?_) (fun h32 => ?_)
      · skip
        have c33 := wt_ceq h32
        refine wt_T_bi (wq_md_worthOf n hn r23.1 r28 ri31) (fun r34 h35 => ?_)
        have e36 := h35
        have bb37 := wt_bd r34.1
        rw [e36]
        refine wt_T_some ?_
        exact ⟨(wt_fr.tr (wt_fr.tr (wt_fr.tr (wt_fr.tr wt_fr.rf fσ2 (fun i k h => by (try dsimp only at h); exact Or.inl (by omega)) (fun i h => h.elim)) f14 (fun i k h => by (try dsimp only at h); exact Or.inl (by omega)) (fun i h => h.elim)) f25 (fun i k h => by (try dsimp only at h); exact Or.inr ((by omega))) (fun i h => by (try dsimp only at h); rcases h with h | h | h | h | h; exact Or.inl (by omega); exact Or.inr (Or.inl (by omega)); exact Or.inr (Or.inr (Or.inl (by omega))); exact Or.inr (Or.inr (Or.inr (Or.inl (by omega)))); exact Or.inr (Or.inr (Or.inr (Or.inr ((by omega))))))) f30 (fun i k h => h.elim) (fun i h => by (try dsimp only at h); exact Or.inr (Or.inr (Or.inr (Or.inr ((by omega))))))), ri31⟩
      · skip
        have c38 := wt_nceq h32
        refine wt_T_some ?_
        exact ⟨(wt_fr.tr (wt_fr.tr (wt_fr.tr (wt_fr.tr wt_fr.rf fσ2 (fun i k h => by (try dsimp only at h); exact Or.inl (by omega)) (fun i h => h.elim)) f14 (fun i k h => by (try dsimp only at h); exact Or.inl (by omega)) (fun i h => h.elim)) f25 (fun i k h => by (try dsimp only at h); exact Or.inr ((by omega))) (fun i h => by (try dsimp only at h); rcases h with h | h | h | h | h; exact Or.inl (by omega); exact Or.inr (Or.inl (by omega)); exact Or.inr (Or.inr (Or.inl (by omega))); exact Or.inr (Or.inr (Or.inr (Or.inl (by omega)))); exact Or.inr (Or.inr (Or.inr (Or.inr ((by omega))))))) f30 (fun i k h => h.elim) (fun i h => by (try dsimp only at h); exact Or.inr (Or.inr (Or.inr (Or.inr ((by omega))))))), ri31⟩
    · skip
      have c39 := wt_nceq h20
      refine wt_T_some ?_
      exact ⟨(wt_fr.tr (wt_fr.tr wt_fr.rf fσ2 (fun i k h => by (try dsimp only at h); exact Or.inl (by omega)) (fun i h => h.elim)) f14 (fun i k h => by (try dsimp only at h); exact Or.inl (by omega)) (fun i h => h.elim)), ri15⟩
  · skip
    have c40 := wt_nceq h10
    unfold wp_md_greedy_B20
    refine wt_T_bi (wq_md_bad n hn (0 : Int32) (1 : Int32) σ2 rσ2 (by omega)) (fun r41 h42 => ?_)
    obtain ⟨f43, ri44, pp45⟩ := h42
    have bb46 := wt_bd r41.1
    have bb47 := wt_bd (wt_gf r41.2 108 0)
    have bb48 := wt_bd (wt_gf σ2 108 0)
    refine wt_T_if (fun h49 => ?_) (fun h49 => ?_)
    · skip
      have c50 := wt_ceq h49
      have k51 : (100 : Int32).toInt = 100 := by decide
      refine wt_T_bi (wq_md_greedyAhead n hn (100 : Int32) r41.2 ri44) (fun r52 h53 => ?_)
      obtain ⟨f54, ri55⟩ := h53
      have bb56 := wt_bd r52.1
      refine wt_T_bi (wq_md_putsBack n hn r52.2 ri55) (fun r57 h58 => ?_)
      obtain ⟨f59, ri60⟩ := h58
      refine wt_T_if (fun h61 => ?_) (fun h61 => ?_)
      · skip
        have c62 := wt_ceq h61
        refine wt_T_bi (wq_md_worthOf n hn r52.1 r57 ri60) (fun r63 h64 => ?_)
        have e65 := h64
        have bb66 := wt_bd r63.1
        rw [e65]
        refine wt_T_some ?_
        exact ⟨(wt_fr.tr (wt_fr.tr (wt_fr.tr (wt_fr.tr wt_fr.rf fσ2 (fun i k h => by (try dsimp only at h); exact Or.inl (by omega)) (fun i h => h.elim)) f43 (fun i k h => by (try dsimp only at h); exact Or.inl (by omega)) (fun i h => h.elim)) f54 (fun i k h => by (try dsimp only at h); exact Or.inr ((by omega))) (fun i h => by (try dsimp only at h); rcases h with h | h | h | h | h; exact Or.inl (by omega); exact Or.inr (Or.inl (by omega)); exact Or.inr (Or.inr (Or.inl (by omega))); exact Or.inr (Or.inr (Or.inr (Or.inl (by omega)))); exact Or.inr (Or.inr (Or.inr (Or.inr ((by omega))))))) f59 (fun i k h => h.elim) (fun i h => by (try dsimp only at h); exact Or.inr (Or.inr (Or.inr (Or.inr ((by omega))))))), ri60⟩
      · skip
        have c67 := wt_nceq h61
        refine wt_T_some ?_
        exact ⟨(wt_fr.tr (wt_fr.tr (wt_fr.tr (wt_fr.tr wt_fr.rf fσ2 (fun i k h => by (try dsimp only at h); exact Or.inl (by omega)) (fun i h => h.elim)) f43 (fun i k h => by (try dsimp only at h); exact Or.inl (by omega)) (fun i h => h.elim)) f54 (fun i k h => by (try dsimp only at h); exact Or.inr ((by omega))) (fun i h => by (try dsimp only at h); rcases h with h | h | h | h | h; exact Or.inl (by omega); exact Or.inr (Or.inl (by omega)); exact Or.inr (Or.inr (Or.inl (by omega))); exact Or.inr (Or.inr (Or.inr (Or.inl (by omega)))); exact Or.inr (Or.inr (Or.inr (Or.inr ((by omega))))))) f59 (fun i k h => h.elim) (fun i h => by (try dsimp only at h); exact Or.inr (Or.inr (Or.inr (Or.inr ((by omega))))))), ri60⟩
    · skip
      have c68 := wt_nceq h49
      refine wt_T_some ?_
      exact ⟨(wt_fr.tr (wt_fr.tr wt_fr.rf fσ2 (fun i k h => by (try dsimp only at h); exact Or.inl (by omega)) (fun i h => h.elim)) f43 (fun i k h => by (try dsimp only at h); exact Or.inl (by omega)) (fun i h => h.elim)), ri44⟩
set_option maxRecDepth 100000 in
set_option maxHeartbeats 4000000 in
theorem wq_md_habit (n : Nat) (hn : 4294967297 < n) (x1 : Int32) (σ : wt_St) (r0 : wt_RI σ) : wt_T (wp_md_habit n x1 σ) (fun q => wt_fr (fun i k => (i = 108 ∧ k = 0) ∨ (i = 108 ∧ k = 26)) (fun i => False) σ q.2 ∧ wt_RI q.2) := by
  have bb1 := wt_bd x1
  unfold wp_md_habit
  obtain ⟨σ2, eσ2⟩ : ∃ z : wt_St, z = wt_sf σ 108 0 (0 : Int32) := ⟨_, rfl⟩
  rw [← eσ2]
  have fσ2 := wt_fr_sf eσ2
  have vσ2 := wt_ceq (wt_v_sf eσ2)
  have k3 : (0 : Int32).toInt = 0 := by decide
  have rσ2 := wt_RI_fno r0 eσ2 (Or.inr (by decide))
  have k4 : (1 : Int32).toInt = 1 := by decide
  refine wt_T_bi (wq_md_in n hn x1 (0 : Int32) (1 : Int32) σ2 rσ2) (fun r5 h6 => ?_)
  obtain ⟨e7, pp8⟩ := h6
  have bb9 := wt_bd r5.1
  rw [e7]
  refine wt_T_if (fun h10 => ?_) (fun h10 => ?_)
  · skip
    have c11 := wt_ceq h10
    unfold wp_md_habit_B20
    refine wt_T_bi (wq_md_bad n hn (1 : Int32) (1 : Int32) σ2 rσ2 (by omega)) (fun r12 h13 => ?_)
    obtain ⟨f14, ri15, pp16⟩ := h13
    have bb17 := wt_bd r12.1
    have bb18 := wt_bd (wt_gf r12.2 108 0)
    have bb19 := wt_bd (wt_gf σ2 108 0)
    refine wt_T_if (fun h20 => ?_) (fun h20 => ?_)
    · skip
      have c21 := wt_ceq h20
      obtain ⟨σ22, eσ22⟩ : ∃ z : wt_St, z = wt_sf r12.2 108 26 x1 := ⟨_, rfl⟩
      rw [← eσ22]
      have fσ22 := wt_fr_sf eσ22
      have vσ22 := wt_ceq (wt_v_sf eσ22)
      have rσ22 := wt_RI_fno ri15 eσ22 (Or.inr (by decide))
      refine wt_T_some ?_
      exact ⟨(wt_fr.tr (wt_fr.tr (wt_fr.tr wt_fr.rf fσ2 (fun i k h => by (try dsimp only at h); exact Or.inl (by omega)) (fun i h => h.elim)) f14 (fun i k h => by (try dsimp only at h); exact Or.inl (by omega)) (fun i h => h.elim)) fσ22 (fun i k h => by (try dsimp only at h); exact Or.inr ((by omega))) (fun i h => h.elim)), rσ22⟩
    · skip
      have c23 := wt_nceq h20
      refine wt_T_some ?_
      exact ⟨(wt_fr.tr (wt_fr.tr wt_fr.rf fσ2 (fun i k h => by (try dsimp only at h); exact Or.inl (by omega)) (fun i h => h.elim)) f14 (fun i k h => by (try dsimp only at h); exact Or.inl (by omega)) (fun i h => h.elim)), ri15⟩
  · skip
    have c24 := wt_nceq h10
    unfold wp_md_habit_B20
    refine wt_T_bi (wq_md_bad n hn (0 : Int32) (1 : Int32) σ2 rσ2 (by omega)) (fun r25 h26 => ?_)
    obtain ⟨f27, ri28, pp29⟩ := h26
    have bb30 := wt_bd r25.1
    have bb31 := wt_bd (wt_gf r25.2 108 0)
    have bb32 := wt_bd (wt_gf σ2 108 0)
    refine wt_T_if (fun h33 => ?_) (fun h33 => ?_)
    · skip
      have c34 := wt_ceq h33
      obtain ⟨σ35, eσ35⟩ : ∃ z : wt_St, z = wt_sf r25.2 108 26 x1 := ⟨_, rfl⟩
      rw [← eσ35]
      have fσ35 := wt_fr_sf eσ35
      have vσ35 := wt_ceq (wt_v_sf eσ35)
      have rσ35 := wt_RI_fno ri28 eσ35 (Or.inr (by decide))
      refine wt_T_some ?_
      exact ⟨(wt_fr.tr (wt_fr.tr (wt_fr.tr wt_fr.rf fσ2 (fun i k h => by (try dsimp only at h); exact Or.inl (by omega)) (fun i h => h.elim)) f27 (fun i k h => by (try dsimp only at h); exact Or.inl (by omega)) (fun i h => h.elim)) fσ35 (fun i k h => by (try dsimp only at h); exact Or.inr ((by omega))) (fun i h => h.elim)), rσ35⟩
    · skip
      have c36 := wt_nceq h33
      refine wt_T_some ?_
      exact ⟨(wt_fr.tr (wt_fr.tr wt_fr.rf fσ2 (fun i k h => by (try dsimp only at h); exact Or.inl (by omega)) (fun i h => h.elim)) f27 (fun i k h => by (try dsimp only at h); exact Or.inl (by omega)) (fun i h => h.elim)), ri28⟩
set_option maxRecDepth 100000 in
set_option maxHeartbeats 4000000 in
theorem wq_md_isLetter (n : Nat) (hn : 4294967297 < n) (x0 : Int32) (σ : wt_St) (r0 : wt_RI σ) : wt_T (wp_md_isLetter n x0 σ) (fun q => q.2 = σ ∧ ((q.1.toInt = 0 ∧ (x0.toInt < 0 ∨ 25 < x0.toInt)) ∨ (q.1.toInt = 1 ∧ 0 ≤ x0.toInt ∧ x0.toInt ≤ 25))) := by
  have bb1 := wt_bd x0
  unfold wp_md_isLetter
  have k2 : (0 : Int32).toInt = 0 := by decide
  have k3 : (25 : Int32).toInt = 25 := by decide
  refine wt_T_bi (wq_md_in n hn x0 (0 : Int32) (25 : Int32) σ r0) (fun r4 h5 => ?_)
  obtain ⟨e6, pp7⟩ := h5
  have bb8 := wt_bd r4.1
  rw [e6]
  refine wt_T_some ?_
  exact ⟨rfl, (show ((r4.1.toInt = 0 ∧ (x0.toInt < 0 ∨ 25 < x0.toInt)) ∨ (r4.1.toInt = 1 ∧ 0 ≤ x0.toInt ∧ x0.toInt ≤ 25)) from by omega)⟩
set_option maxRecDepth 100000 in
set_option maxHeartbeats 4000000 in
theorem wq_md_isWeek (n : Nat) (hn : 4294967297 < n) (x0 : Int32) (σ : wt_St) (r0 : wt_RI σ) : wt_T (wp_md_isWeek n x0 σ) (fun q => q.2 = σ ∧ ((q.1.toInt = 0 ∧ (x0.toInt < 0 ∨ 100 < x0.toInt)) ∨ (q.1.toInt = 1 ∧ 0 ≤ x0.toInt ∧ x0.toInt ≤ 100))) := by
  have bb1 := wt_bd x0
  unfold wp_md_isWeek
  have k2 : (0 : Int32).toInt = 0 := by decide
  have k3 : (100 : Int32).toInt = 100 := by decide
  refine wt_T_bi (wq_md_in n hn x0 (0 : Int32) (100 : Int32) σ r0) (fun r4 h5 => ?_)
  obtain ⟨e6, pp7⟩ := h5
  have bb8 := wt_bd r4.1
  rw [e6]
  refine wt_T_some ?_
  exact ⟨rfl, (show ((r4.1.toInt = 0 ∧ (x0.toInt < 0 ∨ 100 < x0.toInt)) ∨ (r4.1.toInt = 1 ∧ 0 ≤ x0.toInt ∧ x0.toInt ≤ 100)) from by omega)⟩
set_option maxRecDepth 100000 in
set_option maxHeartbeats 4000000 in
theorem wq_md_starts (n : Nat) (hn : 4294967297 < n) (x1 : Int32) (σ : wt_St) (r0 : wt_RI σ) (p0 : 0 ≤ x1.toInt) (p1 : x1.toInt ≤ 500) : wt_T (wp_md_starts n x1 σ) (fun q => wt_fr (fun i k => (i = 108 ∧ k = 1) ∨ (i = 108 ∧ k = 2) ∨ (i = 108 ∧ k = 4) ∨ (i = 108 ∧ k = 5) ∨ (i = 108 ∧ k = 6) ∨ (i = 108 ∧ k = 7)) (fun i => False) σ q ∧ wt_RI q ∧ ((wt_gf q 108 1).toInt = 0 ∧ (wt_gf q 108 5).toInt = 0 ∧ (wt_gf q 108 7).toInt = 0)) := by
  have bb1 := wt_bd x1
  unfold wp_md_starts
  obtain ⟨σ2, eσ2⟩ : ∃ z : wt_St, z = wt_sf σ 108 1 (0 : Int32) := ⟨_, rfl⟩
  rw [← eσ2]
  have fσ2 := wt_fr_sf eσ2
  have vσ2 := wt_ceq (wt_v_sf eσ2)
  have k3 : (0 : Int32).toInt = 0 := by decide
  have rσ2 := wt_RI_fin r0 eσ2 0 rfl rfl (show 0 ≤ ((0 : Int32)).toInt by omega) (show ((0 : Int32)).toInt ≤ 500 by omega)
  obtain ⟨σ4, eσ4⟩ : ∃ z : wt_St, z = wt_sf σ2 108 2 x1 := ⟨_, rfl⟩
  rw [← eσ4]
  have fσ4 := wt_fr_sf eσ4
  have vσ4 := wt_ceq (wt_v_sf eσ4)
  have rσ4 := wt_RI_fin rσ2 eσ4 1 rfl rfl (show 0 ≤ (x1).toInt by omega) (show (x1).toInt ≤ 500 by omega)
  obtain ⟨σ5, eσ5⟩ : ∃ z : wt_St, z = wt_sf σ4 108 4 (0 : Int32) := ⟨_, rfl⟩
  rw [← eσ5]
  have fσ5 := wt_fr_sf eσ5
  have vσ5 := wt_ceq (wt_v_sf eσ5)
  have rσ5 := wt_RI_fin rσ4 eσ5 2 rfl rfl (show 0 ≤ ((0 : Int32)).toInt by omega) (show ((0 : Int32)).toInt ≤ 500 by omega)
  obtain ⟨σ6, eσ6⟩ : ∃ z : wt_St, z = wt_sf σ5 108 5 (0 : Int32) := ⟨_, rfl⟩
  rw [← eσ6]
  have fσ6 := wt_fr_sf eσ6
  have vσ6 := wt_ceq (wt_v_sf eσ6)
  have rσ6 := wt_RI_fin rσ5 eσ6 3 rfl rfl (show 0 ≤ ((0 : Int32)).toInt by omega) (show ((0 : Int32)).toInt ≤ 3 by omega)
  obtain ⟨σ7, eσ7⟩ : ∃ z : wt_St, z = wt_sf σ6 108 6 (-1 : Int32) := ⟨_, rfl⟩
  rw [← eσ7]
  have fσ7 := wt_fr_sf eσ7
  have vσ7 := wt_ceq (wt_v_sf eσ7)
  have rσ7 := wt_RI_fno rσ6 eσ7 (Or.inr (by decide))
  obtain ⟨σ8, eσ8⟩ : ∃ z : wt_St, z = wt_sf σ7 108 7 (0 : Int32) := ⟨_, rfl⟩
  rw [← eσ8]
  have fσ8 := wt_fr_sf eσ8
  have vσ8 := wt_ceq (wt_v_sf eσ8)
  have rσ8 := wt_RI_fin rσ7 eσ8 4 rfl rfl (show 0 ≤ ((0 : Int32)).toInt by omega) (show ((0 : Int32)).toInt ≤ 60 by omega)
  refine wt_T_bi (wq_md_blanks n hn σ8 rσ8) (fun r9 h10 => ?_)
  obtain ⟨f11, ri12, pp13⟩ := h10
  have bb14 := wt_bd (wt_gf σ8 108 4)
  have g15 : 0 ≤ (wt_gf σ8 108 4).toInt ∧ (wt_gf σ8 108 4).toInt ≤ 500 := wt_R_gf rσ8 2 rfl
  have tt16 : (wt_gf σ8 108 4).toInt = (wt_gf σ7 108 4).toInt := congrArg Int32.toInt (fσ8.1 108 4 (by (try dsimp only); omega))
  have bb17 := wt_bd (wt_gf σ7 108 4)
  have g18 : 0 ≤ (wt_gf σ7 108 4).toInt ∧ (wt_gf σ7 108 4).toInt ≤ 500 := wt_R_gf rσ7 2 rfl
  have tt19 : (wt_gf σ7 108 4).toInt = (wt_gf σ6 108 4).toInt := congrArg Int32.toInt (fσ7.1 108 4 (by (try dsimp only); omega))
  have bb20 := wt_bd (wt_gf σ6 108 4)
  have g21 : 0 ≤ (wt_gf σ6 108 4).toInt ∧ (wt_gf σ6 108 4).toInt ≤ 500 := wt_R_gf rσ6 2 rfl
  have tt22 : (wt_gf σ6 108 4).toInt = (wt_gf σ5 108 4).toInt := congrArg Int32.toInt (fσ6.1 108 4 (by (try dsimp only); omega))
  have bb23 := wt_bd (wt_gf σ5 108 4)
  have g24 : 0 ≤ (wt_gf σ5 108 4).toInt ∧ (wt_gf σ5 108 4).toInt ≤ 500 := wt_R_gf rσ5 2 rfl
  have bb25 := wt_bd (wt_gf r9 108 4)
  have g26 : 0 ≤ (wt_gf r9 108 4).toInt ∧ (wt_gf r9 108 4).toInt ≤ 500 := wt_R_gf ri12 2 rfl
  refine wt_T_some ?_
  have bb27 := wt_bd (wt_gf r9 108 1)
  have g28 : 0 ≤ (wt_gf r9 108 1).toInt ∧ (wt_gf r9 108 1).toInt ≤ 500 := wt_R_gf ri12 0 rfl
  have tt29 : (wt_gf r9 108 1).toInt = (wt_gf σ8 108 1).toInt := congrArg Int32.toInt (f11.1 108 1 (by (try dsimp only); omega))
  have bb30 := wt_bd (wt_gf σ8 108 1)
  have g31 : 0 ≤ (wt_gf σ8 108 1).toInt ∧ (wt_gf σ8 108 1).toInt ≤ 500 := wt_R_gf rσ8 0 rfl
  have tt32 : (wt_gf σ8 108 1).toInt = (wt_gf σ7 108 1).toInt := congrArg Int32.toInt (fσ8.1 108 1 (by (try dsimp only); omega))
  have bb33 := wt_bd (wt_gf σ7 108 1)
  have g34 : 0 ≤ (wt_gf σ7 108 1).toInt ∧ (wt_gf σ7 108 1).toInt ≤ 500 := wt_R_gf rσ7 0 rfl
  have tt35 : (wt_gf σ7 108 1).toInt = (wt_gf σ6 108 1).toInt := congrArg Int32.toInt (fσ7.1 108 1 (by (try dsimp only); omega))
  have bb36 := wt_bd (wt_gf σ6 108 1)
  have g37 : 0 ≤ (wt_gf σ6 108 1).toInt ∧ (wt_gf σ6 108 1).toInt ≤ 500 := wt_R_gf rσ6 0 rfl
  have tt38 : (wt_gf σ6 108 1).toInt = (wt_gf σ5 108 1).toInt := congrArg Int32.toInt (fσ6.1 108 1 (by (try dsimp only); omega))
  have bb39 := wt_bd (wt_gf σ5 108 1)
  have g40 : 0 ≤ (wt_gf σ5 108 1).toInt ∧ (wt_gf σ5 108 1).toInt ≤ 500 := wt_R_gf rσ5 0 rfl
  have tt41 : (wt_gf σ5 108 1).toInt = (wt_gf σ4 108 1).toInt := congrArg Int32.toInt (fσ5.1 108 1 (by (try dsimp only); omega))
  have bb42 := wt_bd (wt_gf σ4 108 1)
  have g43 : 0 ≤ (wt_gf σ4 108 1).toInt ∧ (wt_gf σ4 108 1).toInt ≤ 500 := wt_R_gf rσ4 0 rfl
  have tt44 : (wt_gf σ4 108 1).toInt = (wt_gf σ2 108 1).toInt := congrArg Int32.toInt (fσ4.1 108 1 (by (try dsimp only); omega))
  have bb45 := wt_bd (wt_gf σ2 108 1)
  have g46 : 0 ≤ (wt_gf σ2 108 1).toInt ∧ (wt_gf σ2 108 1).toInt ≤ 500 := wt_R_gf rσ2 0 rfl
  have bb47 := wt_bd (wt_gf r9 108 5)
  have g48 : 0 ≤ (wt_gf r9 108 5).toInt ∧ (wt_gf r9 108 5).toInt ≤ 3 := wt_R_gf ri12 3 rfl
  have tt49 : (wt_gf r9 108 5).toInt = (wt_gf σ8 108 5).toInt := congrArg Int32.toInt (f11.1 108 5 (by (try dsimp only); omega))
  have bb50 := wt_bd (wt_gf σ8 108 5)
  have g51 : 0 ≤ (wt_gf σ8 108 5).toInt ∧ (wt_gf σ8 108 5).toInt ≤ 3 := wt_R_gf rσ8 3 rfl
  have tt52 : (wt_gf σ8 108 5).toInt = (wt_gf σ7 108 5).toInt := congrArg Int32.toInt (fσ8.1 108 5 (by (try dsimp only); omega))
  have bb53 := wt_bd (wt_gf σ7 108 5)
  have g54 : 0 ≤ (wt_gf σ7 108 5).toInt ∧ (wt_gf σ7 108 5).toInt ≤ 3 := wt_R_gf rσ7 3 rfl
  have tt55 : (wt_gf σ7 108 5).toInt = (wt_gf σ6 108 5).toInt := congrArg Int32.toInt (fσ7.1 108 5 (by (try dsimp only); omega))
  have bb56 := wt_bd (wt_gf σ6 108 5)
  have g57 : 0 ≤ (wt_gf σ6 108 5).toInt ∧ (wt_gf σ6 108 5).toInt ≤ 3 := wt_R_gf rσ6 3 rfl
  have bb58 := wt_bd (wt_gf r9 108 7)
  have g59 : 0 ≤ (wt_gf r9 108 7).toInt ∧ (wt_gf r9 108 7).toInt ≤ 60 := wt_R_gf ri12 4 rfl
  have tt60 : (wt_gf r9 108 7).toInt = (wt_gf σ8 108 7).toInt := congrArg Int32.toInt (f11.1 108 7 (by (try dsimp only); omega))
  have bb61 := wt_bd (wt_gf σ8 108 7)
  have g62 : 0 ≤ (wt_gf σ8 108 7).toInt ∧ (wt_gf σ8 108 7).toInt ≤ 60 := wt_R_gf rσ8 4 rfl
  exact ⟨(wt_fr.tr (wt_fr.tr (wt_fr.tr (wt_fr.tr (wt_fr.tr (wt_fr.tr (wt_fr.tr wt_fr.rf fσ2 (fun i k h => by (try dsimp only at h); exact Or.inl (by omega)) (fun i h => h.elim)) fσ4 (fun i k h => by (try dsimp only at h); exact Or.inr (Or.inl (by omega))) (fun i h => h.elim)) fσ5 (fun i k h => by (try dsimp only at h); exact Or.inr (Or.inr (Or.inl (by omega)))) (fun i h => h.elim)) fσ6 (fun i k h => by (try dsimp only at h); exact Or.inr (Or.inr (Or.inr (Or.inl (by omega))))) (fun i h => h.elim)) fσ7 (fun i k h => by (try dsimp only at h); exact Or.inr (Or.inr (Or.inr (Or.inr (Or.inl (by omega)))))) (fun i h => h.elim)) fσ8 (fun i k h => by (try dsimp only at h); exact Or.inr (Or.inr (Or.inr (Or.inr (Or.inr ((by omega))))))) (fun i h => h.elim)) f11 (fun i k h => by (try dsimp only at h); exact Or.inr (Or.inr (Or.inl (by omega)))) (fun i h => h.elim)), ri12, (show ((wt_gf r9 108 1).toInt = 0 ∧ (wt_gf r9 108 5).toInt = 0 ∧ (wt_gf r9 108 7).toInt = 0) from by omega)⟩
