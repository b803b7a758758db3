set_option maxRecDepth 100000 in
set_option maxHeartbeats 4000000 in
theorem wq_md_allPieces (n : Nat) (hn : 4294967297 < n) (σ : wt_St) (r0 : wt_RI σ) : wt_T (wp_md_allPieces n σ) (fun q => q.2 = σ) := by
  unfold wp_md_allPieces
  have k6 : (0 : Int32).toInt = 0 := by decide
  refine wt_T_it (fun s : Int32 × Int32 × wt_St => s.2.2 = σ ∧ 0 ≤ (s.2.1).toInt) (fun s : Int32 × Int32 × wt_St => ((26 : Int32).toInt - s.2.1.toInt + 0).toNat) (fun KK1 z2 I3 hKK1 => ?_) _ _ ?_ ?_
  · skip
    obtain ⟨l4, l5⟩ := I3
    unfold wp_md_allPieces_B4
    rw [l4]
    have k7 : (26 : Int32).toInt = 26 := by decide
    have bb8 := wt_bd z2.2.1
    refine wt_T_if (fun h9 => ?_) (fun h9 => ?_)
    · skip
      have c10 := wt_cle h9
      refine wt_T_some ?_
      exact rfl
    · skip
      have c11 := wt_ncle h9
      refine wt_T_gd (wt_ix (by first | with_reducible assumption | omega) (by first | with_reducible assumption | omega)) ?_
      have bb12 := wt_bd z2.1
      have bb13 := wt_tn z2.2.1
      have g15 : 0 ≤ (wt_ga σ 111 (Int32.toNatClampNeg z2.2.1)).toInt ∧ (wt_ga σ 111 (Int32.toNatClampNeg z2.2.1)).toInt ≤ 13 := wt_Ra1 r0 111 (by decide) (by decide) (Int32.toNatClampNeg z2.2.1)
      obtain ⟨j16, j16a, j16b⟩ := wt_addI z2.1 (wt_ga σ 111 (Int32.toNatClampNeg z2.2.1))
      refine hKK1 _ ⟨rfl, (wt_nn (B := (26 : Int32)) (by first | with_reducible assumption | omega) (by first | (rw [l4]; omega) | (rw [l4]; done) | omega))⟩ ?_
      show ((26 : Int32).toInt - (z2.2.1 + (1 : Int32)).toInt + 0).toNat < ((26 : Int32).toInt - z2.2.1.toInt + 0).toNat
      exact wt_mu (by first | (rw [l4]; omega) | (rw [l4]; done) | omega) (by first | (rw [l4]; omega) | (rw [l4]; done) | omega)
  · skip
    have k17 : (26 : Int32).toInt = 26 := by decide
    exact ⟨rfl, (show 0 ≤ ((0 : Int32)).toInt by omega)⟩
  · skip
    have k18 : (26 : Int32).toInt = 26 := by decide
    show ((26 : Int32).toInt - (0 : Int32).toInt + 0).toNat < n
    omega
set_option maxRecDepth 100000 in
set_option maxHeartbeats 4000000 in
theorem wq_md_bad (n : Nat) (hn : 4294967297 < n) (x1 : Int32) (x2 : Int32) (σ : wt_St) (r0 : wt_RI σ) (p0 : x2.toInt ≠ 0) : wt_T (wp_md_bad n x1 x2 σ) (fun q => wt_fr (fun i k => (i = 108 ∧ k = 0)) (fun i => False) σ q.2 ∧ wt_RI q.2 ∧ ((q.1.toInt = 0 ∧ x1.toInt = 0 ∧ (wt_gf q.2 108 0).toInt = 0) ∨ (q.1.toInt = 1 ∧ (x1.toInt ≠ 0 ∨ (wt_gf σ 108 0).toInt ≠ 0)))) := by
  have bb1 := wt_bd x1
  have bb2 := wt_bd x2
  unfold wp_md_bad
  have k3 : (0 : Int32).toInt = 0 := by decide
  refine wt_T_if (fun h4 => ?_) (fun h4 => ?_)
  · skip
    have c5 := wt_ceq h4
    unfold wp_md_bad_B16
    have bb6 := wt_bd (wt_gf σ 108 0)
    refine wt_T_if (fun h7 => ?_) (fun h7 => ?_)
    · skip
      have c8 := wt_ceq h7
      refine wt_T_some ?_
      exact ⟨wt_fr.rf, r0, (show (((0 : Int32).toInt = 0 ∧ x1.toInt = 0 ∧ (wt_gf σ 108 0).toInt = 0) ∨ ((0 : Int32).toInt = 1 ∧ (x1.toInt ≠ 0 ∨ (wt_gf σ 108 0).toInt ≠ 0))) from by omega)⟩
    · skip
      have c9 := wt_nceq h7
      refine wt_T_some ?_
      have k10 : (1 : Int32).toInt = 1 := by decide
      exact ⟨wt_fr.rf, r0, (show (((1 : Int32).toInt = 0 ∧ x1.toInt = 0 ∧ (wt_gf σ 108 0).toInt = 0) ∨ ((1 : Int32).toInt = 1 ∧ (x1.toInt ≠ 0 ∨ (wt_gf σ 108 0).toInt ≠ 0))) from by omega)⟩
  · skip
    have c11 := wt_nceq h4
    have bb12 := wt_bd (wt_gf σ 108 0)
    refine wt_T_if (fun h13 => ?_) (fun h13 => ?_)
    · skip
      have c14 := wt_ceq h13
      obtain ⟨σ15, eσ15⟩ : ∃ z : wt_St, z = wt_sf σ 108 0 x2 := ⟨_, rfl⟩
      rw [← eσ15]
      have fσ15 := wt_fr_sf eσ15
      have vσ15 := wt_ceq (wt_v_sf eσ15)
      have rσ15 := wt_RI_fno r0 eσ15 (Or.inr (by decide +kernel))
      unfold wp_md_bad_B16
      have bb16 := wt_bd (wt_gf σ15 108 0)
      refine wt_T_if (fun h17 => ?_) (fun h17 => ?_)
      · skip
        have c18 := wt_ceq h17
        refine wt_T_some ?_
        exact ⟨(wt_fr.tr wt_fr.rf fσ15 (fun i k h => by (try dsimp only at h); exact (by first | exact h | omega)) (fun i h => h.elim)), rσ15, (show (((0 : Int32).toInt = 0 ∧ x1.toInt = 0 ∧ (wt_gf σ15 108 0).toInt = 0) ∨ ((0 : Int32).toInt = 1 ∧ (x1.toInt ≠ 0 ∨ (wt_gf σ 108 0).toInt ≠ 0))) from by omega)⟩
      · skip
        have c19 := wt_nceq h17
        refine wt_T_some ?_
        have k20 : (1 : Int32).toInt = 1 := by decide
        exact ⟨(wt_fr.tr wt_fr.rf fσ15 (fun i k h => by (try dsimp only at h); exact (by first | exact h | omega)) (fun i h => h.elim)), rσ15, (show (((1 : Int32).toInt = 0 ∧ x1.toInt = 0 ∧ (wt_gf σ15 108 0).toInt = 0) ∨ ((1 : Int32).toInt = 1 ∧ (x1.toInt ≠ 0 ∨ (wt_gf σ 108 0).toInt ≠ 0))) from by omega)⟩
    · skip
      have c21 := wt_nceq h13
      unfold wp_md_bad_B16
      refine wt_T_if (fun h22 => ?_) (fun h22 => ?_)
      · skip
        have c23 := wt_ceq h22
        refine wt_T_some ?_
        exact ⟨wt_fr.rf, r0, (show (((0 : Int32).toInt = 0 ∧ x1.toInt = 0 ∧ (wt_gf σ 108 0).toInt = 0) ∨ ((0 : Int32).toInt = 1 ∧ (x1.toInt ≠ 0 ∨ (wt_gf σ 108 0).toInt ≠ 0))) from by omega)⟩
      · skip
        have c24 := wt_nceq h22
        refine wt_T_some ?_
        have k25 : (1 : Int32).toInt = 1 := by decide
        exact ⟨wt_fr.rf, r0, (show (((1 : Int32).toInt = 0 ∧ x1.toInt = 0 ∧ (wt_gf σ 108 0).toInt = 0) ∨ ((1 : Int32).toInt = 1 ∧ (x1.toInt ≠ 0 ∨ (wt_gf σ 108 0).toInt ≠ 0))) from by omega)⟩
set_option maxRecDepth 100000 in
set_option maxHeartbeats 4000000 in
theorem wq_md_in (n : Nat) (hn : 4294967297 < n) (x0 : Int32) (x1 : Int32) (x2 : Int32) (σ : wt_St) (r0 : wt_RI σ) : wt_T (wp_md_in n x0 x1 x2 σ) (fun q => q.2 = σ ∧ ((q.1.toInt = 0 ∧ (x0.toInt < x1.toInt ∨ x2.toInt < x0.toInt)) ∨ (q.1.toInt = 1 ∧ x1.toInt ≤ x0.toInt ∧ x0.toInt ≤ x2.toInt))) := by
  have bb1 := wt_bd x0
  have bb2 := wt_bd x1
  have bb3 := wt_bd x2
  unfold wp_md_in
  refine wt_T_if (fun h4 => ?_) (fun h4 => ?_)
  · skip
    have c5 := wt_clt h4
    refine wt_T_some ?_
    have k6 : (0 : Int32).toInt = 0 := by decide
    exact ⟨rfl, (show (((0 : Int32).toInt = 0 ∧ (x0.toInt < x1.toInt ∨ x2.toInt < x0.toInt)) ∨ ((0 : Int32).toInt = 1 ∧ x1.toInt ≤ x0.toInt ∧ x0.toInt ≤ x2.toInt)) from by omega)⟩
  · skip
    have c7 := wt_ncl h4
    refine wt_T_if (fun h8 => ?_) (fun h8 => ?_)
    · skip
      have c9 := wt_clt h8
      refine wt_T_some ?_
      have k10 : (0 : Int32).toInt = 0 := by decide
      exact ⟨rfl, (show (((0 : Int32).toInt = 0 ∧ (x0.toInt < x1.toInt ∨ x2.toInt < x0.toInt)) ∨ ((0 : Int32).toInt = 1 ∧ x1.toInt ≤ x0.toInt ∧ x0.toInt ≤ x2.toInt)) from by omega)⟩
    · skip
      have c11 := wt_ncl h8
      refine wt_T_some ?_
      have k12 : (1 : Int32).toInt = 1 := by decide
      exact ⟨rfl, (show (((1 : Int32).toInt = 0 ∧ (x0.toInt < x1.toInt ∨ x2.toInt < x0.toInt)) ∨ ((1 : Int32).toInt = 1 ∧ x1.toInt ≤ x0.toInt ∧ x0.toInt ≤ x2.toInt)) from by omega)⟩
set_option maxRecDepth 100000 in
set_option maxHeartbeats 4000000 in
theorem wq_md_isPage (n : Nat) (hn : 4294967297 < n) (x1 : Int32) (σ : wt_St) (r0 : wt_RI σ) : wt_T (wp_md_isPage n x1 σ) (fun q => q.2 = σ ∧ (q.1.toInt = 0 ∨ (q.1.toInt = 1 ∧ 0 ≤ x1.toInt ∧ x1.toInt ≤ 3 ∧ (wt_ga σ 275 (Int32.toNatClampNeg x1)).toInt ≠ -1))) := by
  have bb1 := wt_bd x1
  unfold wp_md_isPage
  have k2 : (0 : Int32).toInt = 0 := by decide
  have k3 : (3 : Int32).toInt = 3 := by decide
  refine wt_T_bi (wq_md_in n hn x1 (0 : Int32) (3 : Int32) σ r0) (fun r4 h5 => ?_)
  obtain ⟨e6, pp7⟩ := h5
  have bb8 := wt_bd r4.1
  rw [e6]
  refine wt_T_if (fun h9 => ?_) (fun h9 => ?_)
  · skip
    have c10 := wt_ceq h9
    refine wt_T_some ?_
    have bb11 := wt_tn x1
    have g13 : -1 ≤ (wt_ga σ 275 (Int32.toNatClampNeg x1)).toInt ∧ (wt_ga σ 275 (Int32.toNatClampNeg x1)).toInt ≤ 7 := wt_Ra12 r0 275 (by decide) (by decide) (Int32.toNatClampNeg x1)
    exact ⟨rfl, (show ((0 : Int32).toInt = 0 ∨ ((0 : Int32).toInt = 1 ∧ 0 ≤ x1.toInt ∧ x1.toInt ≤ 3 ∧ (wt_ga σ 275 (Int32.toNatClampNeg x1)).toInt ≠ -1)) from by omega)⟩
  · skip
    have c14 := wt_nceq h9
    refine wt_T_gd (wt_ix (by first | with_reducible assumption | omega) (by first | with_reducible assumption | omega)) ?_
    have bb15 := wt_tn x1
    have g17 : -1 ≤ (wt_ga σ 275 (Int32.toNatClampNeg x1)).toInt ∧ (wt_ga σ 275 (Int32.toNatClampNeg x1)).toInt ≤ 7 := wt_Ra12 r0 275 (by decide) (by decide) (Int32.toNatClampNeg x1)
    refine wt_T_if (fun h18 => ?_) (fun h18 => ?_)
    · skip
      have c19 := wt_ceq h18
      rw [wt_lm1] at c19
      refine wt_T_some ?_
      exact ⟨rfl, (show ((0 : Int32).toInt = 0 ∨ ((0 : Int32).toInt = 1 ∧ 0 ≤ x1.toInt ∧ x1.toInt ≤ 3 ∧ (wt_ga σ 275 (Int32.toNatClampNeg x1)).toInt ≠ -1)) from by omega)⟩
    · skip
      have c20 := wt_nceq h18
      rw [wt_lm1] at c20
      refine wt_T_some ?_
      have k21 : (1 : Int32).toInt = 1 := by decide
      exact ⟨rfl, (show ((1 : Int32).toInt = 0 ∨ ((1 : Int32).toInt = 1 ∧ 0 ≤ x1.toInt ∧ x1.toInt ≤ 3 ∧ (wt_ga σ 275 (Int32.toNatClampNeg x1)).toInt ≠ -1)) from by omega)⟩
set_option maxRecDepth 100000 in
set_option maxHeartbeats 4000000 in
theorem wq_md_takesApart (n : Nat) (hn : 4294967297 < n) (x1 : Int32) (σ : wt_St) (r0 : wt_RI σ) (p0 : 0 ≤ x1.toInt) (p1 : x1.toInt ≤ 3) : wt_T (wp_md_takesApart n x1 σ) (fun q => wt_fr (fun i k => False) (fun i => i = 275 ∨ i = 124) σ q ∧ wt_RI q) := by
  have bb1 := wt_bd x1
  unfold wp_md_takesApart
  have k8 : (0 : Int32).toInt = 0 := by decide
  refine wt_T_it (fun s : Int32 × wt_St => wt_fr (fun i k => False) (fun i => i = 124) σ s.2 ∧ 0 ≤ (s.1).toInt ∧ wt_RI s.2) (fun s : Int32 × wt_St => ((wt_ga s.2 276 (Int32.toNatClampNeg x1)).toInt - s.1.toInt + 0).toNat) (fun KK2 z3 I4 hKK2 => ?_) _ _ ?_ ?_
  · skip
    obtain ⟨l5, l6, l7⟩ := I4
    unfold wp_md_takesApart_B2
    have bb9 := wt_tn x1
    have g11 : 0 ≤ (wt_ga z3.2 276 (Int32.toNatClampNeg x1)).toInt ∧ (wt_ga z3.2 276 (Int32.toNatClampNeg x1)).toInt ≤ 108 := wt_Ra13 l7 276 (by decide) (by decide) (Int32.toNatClampNeg x1)
    have tt12 : (wt_ga z3.2 276 (Int32.toNatClampNeg x1)).toInt = (wt_ga σ 276 (Int32.toNatClampNeg x1)).toInt := congrArg Int32.toInt (l5.2 276 (by (try dsimp only); omega) (Int32.toNatClampNeg x1))
    have bb15 := wt_bd z3.1
    refine wt_T_gd (wt_ix (by first | with_reducible assumption | omega) (by first | with_reducible assumption | omega)) ?_
    refine wt_T_if (fun h16 => ?_) (fun h16 => ?_)
    · skip
      have c17 := wt_cle h16
      refine wt_T_gd (wt_ix (by first | with_reducible assumption | omega) (by first | with_reducible assumption | omega)) ?_
      obtain ⟨σ18, eσ18⟩ : ∃ z : wt_St, z = wt_sa z3.2 275 (Int32.toNatClampNeg x1) (-1 : Int32) := ⟨_, rfl⟩
      rw [← eσ18]
      have fσ18 := wt_fr_sa eσ18
      have vσ18 := wt_ceq (wt_v_sa eσ18)
      have k19 := wt_lm1
      have rσ18 := wt_Rn12 l7 eσ18 (by decide) (by decide) (show -1 ≤ ((-1 : Int32)).toInt by omega) (show ((-1 : Int32)).toInt ≤ 7 by omega)
      refine wt_T_some ?_
      exact ⟨(wt_fr.tr (wt_fr.tr wt_fr.rf l5 (fun i k h => h.elim) (fun i h => by (try dsimp only at h); exact Or.inr (by first | exact h | omega))) fσ18 (fun i k h => h.elim) (fun i h => by (try dsimp only at h); exact Or.inl (by first | exact h | omega))), rσ18⟩
    · skip
      have c20 := wt_ncle h16
      refine wt_T_gd (wt_ix (by first | with_reducible assumption | omega) (by first | with_reducible assumption | omega)) ?_
      refine wt_T_gd (wt_ix (by first | with_reducible assumption | omega) (by first | with_reducible assumption | omega)) ?_
      have bb21 := wt_tn z3.1
      have g23 : 0 ≤ (wt_ga z3.2 (278 + (Int32.toNatClampNeg x1)) (Int32.toNatClampNeg z3.1)).toInt ∧ (wt_ga z3.2 (278 + (Int32.toNatClampNeg x1)) (Int32.toNatClampNeg z3.1)).toInt ≤ 337 := wt_Ra14 l7 (278 + (Int32.toNatClampNeg x1)) (show 278 ≤ 278 + (Int32.toNatClampNeg x1) by omega) (show 278 + (Int32.toNatClampNeg x1) < 282 by omega) (Int32.toNatClampNeg z3.1)
      have tt24 : (wt_ga z3.2 (278 + (Int32.toNatClampNeg x1)) (Int32.toNatClampNeg z3.1)).toInt = (wt_ga σ (278 + (Int32.toNatClampNeg x1)) (Int32.toNatClampNeg z3.1)).toInt := congrArg Int32.toInt (l5.2 (278 + (Int32.toNatClampNeg x1)) (by (try dsimp only); omega) (Int32.toNatClampNeg z3.1))
      refine wt_T_gd (wt_ix (by first | with_reducible assumption | omega) (by first | with_reducible assumption | omega)) ?_
      obtain ⟨σ27, eσ27⟩ : ∃ z : wt_St, z = wt_sa z3.2 124 (Int32.toNatClampNeg (wt_ga z3.2 (278 + (Int32.toNatClampNeg x1)) (Int32.toNatClampNeg z3.1))) (-1 : Int32) := ⟨_, rfl⟩
      rw [← eσ27]
      have fσ27 := wt_fr_sa eσ27
      have vσ27 := wt_ceq (wt_v_sa eσ27)
      have bb28 := wt_tn (wt_ga z3.2 (278 + (Int32.toNatClampNeg x1)) (Int32.toNatClampNeg z3.1))
      have rσ27 := wt_RI_no l7 eσ27 124 125 (by decide +kernel) (by decide) (by decide)
      have g30 : 0 ≤ (wt_ga σ27 276 (Int32.toNatClampNeg x1)).toInt ∧ (wt_ga σ27 276 (Int32.toNatClampNeg x1)).toInt ≤ 108 := wt_Ra13 rσ27 276 (by decide) (by decide) (Int32.toNatClampNeg x1)
      have tt31 : (wt_ga σ27 276 (Int32.toNatClampNeg x1)).toInt = (wt_ga z3.2 276 (Int32.toNatClampNeg x1)).toInt := congrArg Int32.toInt (fσ27.2 276 (by (try dsimp only); omega) (Int32.toNatClampNeg x1))
      refine hKK2 _ ⟨(wt_fr.tr (wt_fr.tr wt_fr.rf l5 (fun i k h => h.elim) (fun i h => by (try dsimp only at h); exact (by first | exact h | omega))) fσ27 (fun i k h => h.elim) (fun i h => by (try dsimp only at h); exact (by first | exact h | omega))), (wt_nn (B := wt_ga z3.2 276 (Int32.toNatClampNeg x1)) (by first | with_reducible assumption | omega) (by first | with_reducible assumption | omega)), rσ27⟩ ?_
      show ((wt_ga σ27 276 (Int32.toNatClampNeg x1)).toInt - (z3.1 + (1 : Int32)).toInt + 0).toNat < ((wt_ga z3.2 276 (Int32.toNatClampNeg x1)).toInt - z3.1.toInt + 0).toNat
      exact wt_mu (by first | with_reducible assumption | omega) (by first | with_reducible assumption | omega)
  · skip
    have bb32 := wt_tn x1
    have g34 : 0 ≤ (wt_ga σ 276 (Int32.toNatClampNeg x1)).toInt ∧ (wt_ga σ 276 (Int32.toNatClampNeg x1)).toInt ≤ 108 := wt_Ra13 r0 276 (by decide) (by decide) (Int32.toNatClampNeg x1)
    exact ⟨wt_fr.rf, (show 0 ≤ ((0 : Int32)).toInt by omega), r0⟩
  · skip
    have bb35 := wt_tn x1
    have g37 : 0 ≤ (wt_ga σ 276 (Int32.toNatClampNeg x1)).toInt ∧ (wt_ga σ 276 (Int32.toNatClampNeg x1)).toInt ≤ 108 := wt_Ra13 r0 276 (by decide) (by decide) (Int32.toNatClampNeg x1)
    show ((wt_ga σ 276 (Int32.toNatClampNeg x1)).toInt - (0 : Int32).toInt + 0).toNat < n
    omega
set_option maxRecDepth 100000 in
set_option maxHeartbeats 4000000 in
theorem wq_md_apart (n : Nat) (hn : 4294967297 < n) (x1 : Int32) (σ : wt_St) (r0 : wt_RI σ) : wt_T (wp_md_apart n x1 σ) (fun q => wt_fr (fun i k => (i = 108 ∧ k = 0)) (fun i => i = 275 ∨ i = 124) σ q.2 ∧ wt_RI q.2) := by
  have bb1 := wt_bd x1
  unfold wp_md_apart
  obtain ⟨σ2, eσ2⟩ : ∃ z : wt_St, z = wt_sf σ 108 0 (0 : Int32) := ⟨_, rfl⟩
  rw [← eσ2]
  have fσ2 := wt_fr_sf eσ2
  have vσ2 := wt_ceq (wt_v_sf eσ2)
  have k3 : (0 : Int32).toInt = 0 := by decide
  have rσ2 := wt_RI_fno r0 eσ2 (Or.inr (by decide +kernel))
  refine wt_T_bi (wq_md_isPage n hn x1 σ2 rσ2) (fun r4 h5 => ?_)
  obtain ⟨e6, pp7⟩ := h5
  have bb8 := wt_bd r4.1
  rw [e6]
  have bb9 := wt_tn x1
  have g11 : -1 ≤ (wt_ga σ2 275 (Int32.toNatClampNeg x1)).toInt ∧ (wt_ga σ2 275 (Int32.toNatClampNeg x1)).toInt ≤ 7 := wt_Ra12 rσ2 275 (by decide) (by decide) (Int32.toNatClampNeg x1)
  have tt12 : (wt_ga σ2 275 (Int32.toNatClampNeg x1)).toInt = (wt_ga σ 275 (Int32.toNatClampNeg x1)).toInt := congrArg Int32.toInt (fσ2.2 275 (fun z => z) (Int32.toNatClampNeg x1))
  refine wt_T_if (fun h15 => ?_) (fun h15 => ?_)
  · skip
    have c16 := wt_ceq h15
    unfold wp_md_apart_B19
    have k17 : (1 : Int32).toInt = 1 := by decide
    refine wt_T_bi (wq_md_bad n hn (1 : Int32) (1 : Int32) σ2 rσ2 (by first | with_reducible assumption | omega)) (fun r18 h19 => ?_)
    obtain ⟨f20, ri21, pp22⟩ := h19
    have bb23 := wt_bd r18.1
    have bb24 := wt_bd (wt_gf r18.2 108 0)
    have bb25 := wt_bd (wt_gf σ2 108 0)
    refine wt_T_if (fun h26 => ?_) (fun h26 => ?_)
    · skip
      have c27 := wt_ceq h26
      refine wt_T_bi (wq_md_takesApart n hn x1 r18.2 ri21 (by first | with_reducible assumption | omega) (by first | with_reducible assumption | omega)) (fun r28 h29 => ?_)
      obtain ⟨f30, ri31⟩ := h29
      refine wt_T_gd (wt_ix (by first | with_reducible assumption | omega) (by first | with_reducible assumption | omega)) ?_
      refine wt_T_some ?_
      exact ⟨(wt_fr.tr (wt_fr.tr (wt_fr.tr wt_fr.rf fσ2 (fun i k h => by (try dsimp only at h); exact (by first | exact h | omega)) (fun i h => h.elim)) f20 (fun i k h => by (try dsimp only at h); exact (by first | exact h | omega)) (fun i h => h.elim)) f30 (fun i k h => h.elim) (fun i h => by (try dsimp only at h); rcases h with h | h; exact Or.inl (by first | exact h | omega); exact Or.inr (by first | exact h | omega))), ri31⟩
    · skip
      have c32 := wt_nceq h26
      refine wt_T_some ?_
      exact ⟨(wt_fr.tr (wt_fr.tr wt_fr.rf fσ2 (fun i k h => by (try dsimp only at h); exact (by first | exact h | omega)) (fun i h => h.elim)) f20 (fun i k h => by (try dsimp only at h); exact (by first | exact h | omega)) (fun i h => h.elim)), ri21⟩
  · skip
    have c33 := wt_nceq h15
    unfold wp_md_apart_B19
    have k34 : (1 : Int32).toInt = 1 := by decide
    refine wt_T_bi (wq_md_bad n hn (0 : Int32) (1 : Int32) σ2 rσ2 (by first | with_reducible assumption | omega)) (fun r35 h36 => ?_)
    obtain ⟨f37, ri38, pp39⟩ := h36
    have bb40 := wt_bd r35.1
    have bb41 := wt_bd (wt_gf r35.2 108 0)
    have bb42 := wt_bd (wt_gf σ2 108 0)
    refine wt_T_if (fun h43 => ?_) (fun h43 => ?_)
    · skip
      have c44 := wt_ceq h43
      refine wt_T_bi (wq_md_takesApart n hn x1 r35.2 ri38 (by first | with_reducible assumption | omega) (by first | with_reducible assumption | omega)) (fun r45 h46 => ?_)
      obtain ⟨f47, ri48⟩ := h46
      refine wt_T_gd (wt_ix (by first | with_reducible assumption | omega) (by first | with_reducible assumption | omega)) ?_
      refine wt_T_some ?_
      exact ⟨(wt_fr.tr (wt_fr.tr (wt_fr.tr wt_fr.rf fσ2 (fun i k h => by (try dsimp only at h); exact (by first | exact h | omega)) (fun i h => h.elim)) f37 (fun i k h => by (try dsimp only at h); exact (by first | exact h | omega)) (fun i h => h.elim)) f47 (fun i k h => h.elim) (fun i h => by (try dsimp only at h); rcases h with h | h; exact Or.inl (by first | exact h | omega); exact Or.inr (by first | exact h | omega))), ri48⟩
    · skip
      have c49 := wt_nceq h43
      refine wt_T_some ?_
      exact ⟨(wt_fr.tr (wt_fr.tr wt_fr.rf fσ2 (fun i k h => by (try dsimp only at h); exact (by first | exact h | omega)) (fun i h => h.elim)) f37 (fun i k h => by (try dsimp only at h); exact (by first | exact h | omega)) (fun i h => h.elim)), ri38⟩
set_option maxRecDepth 100000 in
set_option maxHeartbeats 4000000 in
theorem wq_md_isText (n : Nat) (hn : 4294967297 < n) (x1 : Int32) (σ : wt_St) (r0 : wt_RI σ) : wt_T (wp_md_isText n x1 σ) (fun q => q.2 = σ ∧ (q.1.toInt = 0 ∨ (q.1.toInt = 1 ∧ 0 ≤ x1.toInt ∧ x1.toInt < (wt_gf σ 108 39).toInt))) := by
  have bb1 := wt_bd x1
  unfold wp_md_isText
  have k2 : (0 : Int32).toInt = 0 := by decide
  have g4 : 0 ≤ (wt_gf σ 108 39).toInt ∧ (wt_gf σ 108 39).toInt ≤ 8 := wt_Rf7 r0
  have k5 : (1 : Int32).toInt = 1 := by decide
  obtain ⟨j6, j6a, j6b⟩ := wt_subI (wt_gf σ 108 39) (1 : Int32)
  refine wt_T_bi (wq_md_in n hn x1 (0 : Int32) ((wt_gf σ 108 39) - (1 : Int32)) σ r0) (fun r7 h8 => ?_)
  obtain ⟨e9, pp10⟩ := h8
  have bb11 := wt_bd r7.1
  rw [e9]
  refine wt_T_some ?_
  exact ⟨rfl, (show (r7.1.toInt = 0 ∨ (r7.1.toInt = 1 ∧ 0 ≤ x1.toInt ∧ x1.toInt < (wt_gf σ 108 39).toInt)) from by omega)⟩
set_option maxRecDepth 100000 in
set_option maxHeartbeats 4000000 in
theorem wq_md_at (n : Nat) (hn : 4294967297 < n) (x1 : Int32) (x2 : Int32) (σ : wt_St) (r0 : wt_RI σ) : wt_T (wp_md_at n x1 x2 σ) (fun q => wt_fr (fun i k => (i = 108 ∧ k = 0)) (fun i => False) σ q.2 ∧ wt_RI q.2) := by
  have bb1 := wt_bd x1
  have bb2 := wt_bd x2
  unfold wp_md_at
  obtain ⟨σ3, eσ3⟩ : ∃ z : wt_St, z = wt_sf σ 108 0 (0 : Int32) := ⟨_, rfl⟩
  rw [← eσ3]
  have fσ3 := wt_fr_sf eσ3
  have vσ3 := wt_ceq (wt_v_sf eσ3)
  have k4 : (0 : Int32).toInt = 0 := by decide
  have rσ3 := wt_RI_fno r0 eσ3 (Or.inr (by decide +kernel))
  refine wt_T_bi (wq_md_isText n hn x1 σ3 rσ3) (fun r5 h6 => ?_)
  obtain ⟨e7, pp8⟩ := h6
  have bb9 := wt_bd r5.1
  rw [e7]
  have g11 : 0 ≤ (wt_gf σ3 108 39).toInt ∧ (wt_gf σ3 108 39).toInt ≤ 8 := wt_Rf7 rσ3
  have tt12 : (wt_gf σ3 108 39).toInt = (wt_gf σ 108 39).toInt := congrArg Int32.toInt (fσ3.1 108 39 (by (try dsimp only); omega))
  refine wt_T_if (fun h15 => ?_) (fun h15 => ?_)
  · skip
    have c16 := wt_ceq h15
    unfold wp_md_at_B19
    have k17 : (1 : Int32).toInt = 1 := by decide
    refine wt_T_bi (wq_md_bad n hn (1 : Int32) (1 : Int32) σ3 rσ3 (by first | with_reducible assumption | omega)) (fun r18 h19 => ?_)
    obtain ⟨f20, ri21, pp22⟩ := h19
    have bb23 := wt_bd r18.1
    have bb24 := wt_bd (wt_gf r18.2 108 0)
    have bb25 := wt_bd (wt_gf σ3 108 0)
    refine wt_T_if (fun h26 => ?_) (fun h26 => ?_)
    · skip
      have c27 := wt_ceq h26
      refine wt_T_gd (wt_ix (by first | with_reducible assumption | omega) (by first | with_reducible assumption | omega)) ?_
      have bb28 := wt_tn x1
      have g30 : 0 ≤ (wt_ga r18.2 253 (Int32.toNatClampNeg x1)).toInt ∧ (wt_ga r18.2 253 (Int32.toNatClampNeg x1)).toInt ≤ 12 := wt_Ra9 ri21 253 (by decide) (by decide) (Int32.toNatClampNeg x1)
      have tt31 : (wt_ga r18.2 253 (Int32.toNatClampNeg x1)).toInt = (wt_ga σ3 253 (Int32.toNatClampNeg x1)).toInt := congrArg Int32.toInt (f20.2 253 (fun z => z) (Int32.toNatClampNeg x1))
      have tt34 : (wt_ga σ3 253 (Int32.toNatClampNeg x1)).toInt = (wt_ga σ 253 (Int32.toNatClampNeg x1)).toInt := congrArg Int32.toInt (fσ3.2 253 (fun z => z) (Int32.toNatClampNeg x1))
      obtain ⟨j37, j37a, j37b⟩ := wt_subI (wt_ga r18.2 253 (Int32.toNatClampNeg x1)) (1 : Int32)
      refine wt_T_bi (wq_md_in n hn x2 (0 : Int32) ((wt_ga r18.2 253 (Int32.toNatClampNeg x1)) - (1 : Int32)) r18.2 ri21) (fun r38 h39 => ?_)
      obtain ⟨e40, pp41⟩ := h39
      have bb42 := wt_bd r38.1
      rw [e40]
      refine wt_T_if (fun h43 => ?_) (fun h43 => ?_)
      · skip
        have c44 := wt_ceq h43
        refine wt_T_some ?_
        exact ⟨(wt_fr.tr (wt_fr.tr wt_fr.rf fσ3 (fun i k h => by (try dsimp only at h); exact (by first | exact h | omega)) (fun i h => h.elim)) f20 (fun i k h => by (try dsimp only at h); exact (by first | exact h | omega)) (fun i h => h.elim)), ri21⟩
      · skip
        have c45 := wt_nceq h43
        refine wt_T_gd (wt_ix (by first | with_reducible assumption | omega) (by first | with_reducible assumption | omega)) ?_
        refine wt_T_gd (wt_ix (by first | with_reducible assumption | omega) (by first | with_reducible assumption | omega)) ?_
        refine wt_T_some ?_
        exact ⟨(wt_fr.tr (wt_fr.tr wt_fr.rf fσ3 (fun i k h => by (try dsimp only at h); exact (by first | exact h | omega)) (fun i h => h.elim)) f20 (fun i k h => by (try dsimp only at h); exact (by first | exact h | omega)) (fun i h => h.elim)), ri21⟩
    · skip
      have c46 := wt_nceq h26
      refine wt_T_some ?_
      exact ⟨(wt_fr.tr (wt_fr.tr wt_fr.rf fσ3 (fun i k h => by (try dsimp only at h); exact (by first | exact h | omega)) (fun i h => h.elim)) f20 (fun i k h => by (try dsimp only at h); exact (by first | exact h | omega)) (fun i h => h.elim)), ri21⟩
  · skip
    have c47 := wt_nceq h15
    unfold wp_md_at_B19
    have k48 : (1 : Int32).toInt = 1 := by decide
    refine wt_T_bi (wq_md_bad n hn (0 : Int32) (1 : Int32) σ3 rσ3 (by first | with_reducible assumption | omega)) (fun r49 h50 => ?_)
    obtain ⟨f51, ri52, pp53⟩ := h50
    have bb54 := wt_bd r49.1
    have bb55 := wt_bd (wt_gf r49.2 108 0)
    have bb56 := wt_bd (wt_gf σ3 108 0)
    refine wt_T_if (fun h57 => ?_) (fun h57 => ?_)
    · skip
      have c58 := wt_ceq h57
      refine wt_T_gd (wt_ix (by first | with_reducible assumption | omega) (by first | with_reducible assumption | omega)) ?_
      have bb59 := wt_tn x1
      have g61 : 0 ≤ (wt_ga r49.2 253 (Int32.toNatClampNeg x1)).toInt ∧ (wt_ga r49.2 253 (Int32.toNatClampNeg x1)).toInt ≤ 12 := wt_Ra9 ri52 253 (by decide) (by decide) (Int32.toNatClampNeg x1)
      have tt62 : (wt_ga r49.2 253 (Int32.toNatClampNeg x1)).toInt = (wt_ga σ3 253 (Int32.toNatClampNeg x1)).toInt := congrArg Int32.toInt (f51.2 253 (fun z => z) (Int32.toNatClampNeg x1))
      have tt65 : (wt_ga σ3 253 (Int32.toNatClampNeg x1)).toInt = (wt_ga σ 253 (Int32.toNatClampNeg x1)).toInt := congrArg Int32.toInt (fσ3.2 253 (fun z => z) (Int32.toNatClampNeg x1))
      obtain ⟨j68, j68a, j68b⟩ := wt_subI (wt_ga r49.2 253 (Int32.toNatClampNeg x1)) (1 : Int32)
      refine wt_T_bi (wq_md_in n hn x2 (0 : Int32) ((wt_ga r49.2 253 (Int32.toNatClampNeg x1)) - (1 : Int32)) r49.2 ri52) (fun r69 h70 => ?_)
      obtain ⟨e71, pp72⟩ := h70
      have bb73 := wt_bd r69.1
      rw [e71]
      refine wt_T_if (fun h74 => ?_) (fun h74 => ?_)
      · skip
        have c75 := wt_ceq h74
        refine wt_T_some ?_
        exact ⟨(wt_fr.tr (wt_fr.tr wt_fr.rf fσ3 (fun i k h => by (try dsimp only at h); exact (by first | exact h | omega)) (fun i h => h.elim)) f51 (fun i k h => by (try dsimp only at h); exact (by first | exact h | omega)) (fun i h => h.elim)), ri52⟩
      · skip
        have c76 := wt_nceq h74
        refine wt_T_gd (wt_ix (by first | with_reducible assumption | omega) (by first | with_reducible assumption | omega)) ?_
        refine wt_T_gd (wt_ix (by first | with_reducible assumption | omega) (by first | with_reducible assumption | omega)) ?_
        refine wt_T_some ?_
        exact ⟨(wt_fr.tr (wt_fr.tr wt_fr.rf fσ3 (fun i k h => by (try dsimp only at h); exact (by first | exact h | omega)) (fun i h => h.elim)) f51 (fun i k h => by (try dsimp only at h); exact (by first | exact h | omega)) (fun i h => h.elim)), ri52⟩
    · skip
      have c77 := wt_nceq h57
      refine wt_T_some ?_
      exact ⟨(wt_fr.tr (wt_fr.tr wt_fr.rf fσ3 (fun i k h => by (try dsimp only at h); exact (by first | exact h | omega)) (fun i h => h.elim)) f51 (fun i k h => by (try dsimp only at h); exact (by first | exact h | omega)) (fun i h => h.elim)), ri52⟩
set_option maxRecDepth 100000 in
set_option maxHeartbeats 4000000 in
theorem wq_md_byteAt (n : Nat) (hn : 4294967297 < n) (x1 : Int32) (σ : wt_St) (r0 : wt_RI σ) (p0 : 0 ≤ x1.toInt) : wt_T (wp_md_byteAt n x1 σ) (fun q => q.2 = σ ∧ ((q.1.toInt = -1 ∧ (wt_gf σ 108 2).toInt ≤ x1.toInt) ∨ (x1.toInt < (wt_gf σ 108 2).toInt ∧ q.1.toInt = (wt_ga σ 109 (Int32.toNatClampNeg x1)).toInt))) := by
  have bb1 := wt_bd x1
  unfold wp_md_byteAt
  have g3 : 0 ≤ (wt_gf σ 108 2).toInt ∧ (wt_gf σ 108 2).toInt ≤ 500 := wt_Rf1 r0
  refine wt_T_if (fun h4 => ?_) (fun h4 => ?_)
  · skip
    have c5 := wt_clt h4
    have k0 : (0 : Int32).toInt = 0 := by decide
    refine wt_T_gd (wt_ix (by first | with_reducible assumption | omega) (by first | with_reducible assumption | omega)) ?_
    refine wt_T_some ?_
    have bb6 := wt_tn x1
    have bb7 := wt_bd (wt_ga σ 109 (Int32.toNatClampNeg x1))
    exact ⟨rfl, (show (((wt_ga σ 109 (Int32.toNatClampNeg x1)).toInt = -1 ∧ (wt_gf σ 108 2).toInt ≤ x1.toInt) ∨ (x1.toInt < (wt_gf σ 108 2).toInt ∧ (wt_ga σ 109 (Int32.toNatClampNeg x1)).toInt = (wt_ga σ 109 (Int32.toNatClampNeg x1)).toInt)) from by omega)⟩
  · skip
    have c8 := wt_ncl h4
    refine wt_T_some ?_
    have k9 := wt_lm1
    have bb10 := wt_tn x1
    have bb11 := wt_bd (wt_ga σ 109 (Int32.toNatClampNeg x1))
    exact ⟨rfl, (show (((-1 : Int32).toInt = -1 ∧ (wt_gf σ 108 2).toInt ≤ x1.toInt) ∨ (x1.toInt < (wt_gf σ 108 2).toInt ∧ (-1 : Int32).toInt = (wt_ga σ 109 (Int32.toNatClampNeg x1)).toInt)) from by omega)⟩
set_option maxRecDepth 100000 in
set_option maxHeartbeats 4000000 in
theorem wq_md_blanks (n : Nat) (hn : 4294967297 < n) (σ : wt_St) (r0 : wt_RI σ) : wt_T (wp_md_blanks n σ) (fun q => wt_fr (fun i k => (i = 108 ∧ k = 4)) (fun i => False) σ q ∧ wt_RI q ∧ (wt_gf σ 108 4).toInt ≤ (wt_gf q 108 4).toInt) := by
  unfold wp_md_blanks
  refine wt_T_it (fun s : wt_St => wt_fr (fun i k => (i = 108 ∧ k = 4)) (fun i => False) σ s ∧ (wt_gf σ 108 4).toInt ≤ (wt_gf s 108 4).toInt ∧ wt_RI s) (fun s : wt_St => ((wt_gf s 108 2).toInt - (wt_gf s 108 4).toInt).toNat) (fun KK1 z2 I3 hKK1 => ?_) _ _ ?_ ?_
  · skip
    obtain ⟨l4, l5, l6⟩ := I3
    unfold wp_md_blanks_B0
    have g8 : 0 ≤ (wt_gf σ 108 4).toInt ∧ (wt_gf σ 108 4).toInt ≤ 500 := wt_Rf2 r0
    have g10 : 0 ≤ (wt_gf z2 108 4).toInt ∧ (wt_gf z2 108 4).toInt ≤ 500 := wt_Rf2 l6
    have g12 : 0 ≤ (wt_gf z2 108 2).toInt ∧ (wt_gf z2 108 2).toInt ≤ 500 := wt_Rf1 l6
    have tt13 : (wt_gf z2 108 2).toInt = (wt_gf σ 108 2).toInt := congrArg Int32.toInt (l4.1 108 2 (by (try dsimp only); omega))
    refine wt_T_bi (wq_md_byteAt n hn (wt_gf z2 108 4) z2 l6 (by first | with_reducible assumption | omega)) (fun r16 h17 => ?_)
    obtain ⟨e18, pp19⟩ := h17
    have bb20 := wt_bd r16.1
    rw [e18]
    have bb21 := wt_tn (wt_gf z2 108 4)
    have bb22 := wt_bd (wt_ga z2 109 (Int32.toNatClampNeg (wt_gf z2 108 4)))
    have tt23 : (wt_ga z2 109 (Int32.toNatClampNeg (wt_gf z2 108 4))).toInt = (wt_ga σ 109 (Int32.toNatClampNeg (wt_gf z2 108 4))).toInt := congrArg Int32.toInt (l4.2 109 (fun z => z) (Int32.toNatClampNeg (wt_gf z2 108 4)))
    have bb24 := wt_bd (wt_ga σ 109 (Int32.toNatClampNeg (wt_gf z2 108 4)))
    have k25 : (32 : Int32).toInt = 32 := by decide
    refine wt_T_if (fun h26 => ?_) (fun h26 => ?_)
    · skip
      have c27 := wt_ceq h26
      obtain ⟨σ28, eσ28⟩ : ∃ z : wt_St, z = wt_sf z2 108 4 ((wt_gf z2 108 4) + (1 : Int32)) := ⟨_, rfl⟩
      rw [← eσ28]
      have fσ28 := wt_fr_sf eσ28
      have vσ28 := wt_ceq (wt_v_sf eσ28)
      have k29 : (1 : Int32).toInt = 1 := by decide
      obtain ⟨j30, j30a, j30b⟩ := wt_addI (wt_gf z2 108 4) (1 : Int32)
      have rσ28 := wt_Rm2 l6 eσ28 (show 0 ≤ ((wt_gf z2 108 4) + (1 : Int32)).toInt by omega) (show ((wt_gf z2 108 4) + (1 : Int32)).toInt ≤ 500 by omega)
      have g32 : 0 ≤ (wt_gf σ28 108 2).toInt ∧ (wt_gf σ28 108 2).toInt ≤ 500 := wt_Rf1 rσ28
      have tt33 : (wt_gf σ28 108 2).toInt = (wt_gf z2 108 2).toInt := congrArg Int32.toInt (fσ28.1 108 2 (by (try dsimp only); omega))
      have g35 : 0 ≤ (wt_gf σ28 108 4).toInt ∧ (wt_gf σ28 108 4).toInt ≤ 500 := wt_Rf2 rσ28
      refine hKK1 _ ⟨(wt_fr.tr (wt_fr.tr wt_fr.rf l4 (fun i k h => by (try dsimp only at h); exact (by first | exact h | omega)) (fun i h => h.elim)) fσ28 (fun i k h => by (try dsimp only at h); exact (by first | exact h | omega)) (fun i h => h.elim)), (show (wt_gf σ 108 4).toInt ≤ (wt_gf σ28 108 4).toInt by omega), rσ28⟩ ?_
      show ((wt_gf σ28 108 2).toInt - (wt_gf σ28 108 4).toInt).toNat < ((wt_gf z2 108 2).toInt - (wt_gf z2 108 4).toInt).toNat
      omega
    · skip
      have c36 := wt_nceq h26
      refine wt_T_some ?_
      exact ⟨(wt_fr.tr wt_fr.rf l4 (fun i k h => by (try dsimp only at h); exact (by first | exact h | omega)) (fun i h => h.elim)), l6, (show (wt_gf σ 108 4).toInt ≤ (wt_gf z2 108 4).toInt from by omega)⟩
  · skip
    have g38 : 0 ≤ (wt_gf σ 108 2).toInt ∧ (wt_gf σ 108 2).toInt ≤ 500 := wt_Rf1 r0
    have g40 : 0 ≤ (wt_gf σ 108 4).toInt ∧ (wt_gf σ 108 4).toInt ≤ 500 := wt_Rf2 r0
    exact ⟨wt_fr.rf, (show (wt_gf σ 108 4).toInt ≤ (wt_gf σ 108 4).toInt by omega), r0⟩
  · skip
    have g42 : 0 ≤ (wt_gf σ 108 2).toInt ∧ (wt_gf σ 108 2).toInt ≤ 500 := wt_Rf1 r0
    have g44 : 0 ≤ (wt_gf σ 108 4).toInt ∧ (wt_gf σ 108 4).toInt ≤ 500 := wt_Rf2 r0
    show ((wt_gf σ 108 2).toInt - (wt_gf σ 108 4).toInt).toNat < n
    omega
set_option maxRecDepth 100000 in
set_option maxHeartbeats 4000000 in
theorem wq_md_cell (n : Nat) (hn : 4294967297 < n) (x0 : Int32) (x1 : Int32) (σ : wt_St) (r0 : wt_RI σ) (p0 : 0 ≤ x0.toInt) (p1 : x0.toInt ≤ 25) (p2 : 0 ≤ x1.toInt) (p3 : x1.toInt ≤ 12) : wt_T (wp_md_cell n x0 x1 σ) (fun q => q.2 = σ ∧ q.1.toInt = 13 * x0.toInt + x1.toInt) := by
  have bb1 := wt_bd x0
  have bb2 := wt_bd x1
  unfold wp_md_cell
  refine wt_T_some ?_
  have k3 : (13 : Int32).toInt = 13 := by decide
  obtain ⟨j4, j4a, j4b⟩ := wt_mulI (13 : Int32) x0
  rw [show (13 : Int32).toInt = 13 from by decide] at j4a
  obtain ⟨j5, j5a, j5b⟩ := wt_addI ((13 : Int32) * x0) x1
  exact ⟨rfl, (show (((13 : Int32) * x0) + x1).toInt = 13 * x0.toInt + x1.toInt from by omega)⟩
set_option maxRecDepth 100000 in
set_option maxHeartbeats 4000000 in
theorem wq_md_needsNone (n : Nat) (hn : 4294967297 < n) (σ : wt_St) (r0 : wt_RI σ) : wt_T (wp_md_needsNone n σ) (fun q => wt_fr (fun i k => False) (fun i => i = 287) σ q ∧ wt_RI q) := by
  unfold wp_md_needsNone
  have k7 : (0 : Int32).toInt = 0 := by decide
  refine wt_T_it (fun s : Int32 × wt_St => wt_fr (fun i k => False) (fun i => i = 287) σ s.2 ∧ 0 ≤ (s.1).toInt ∧ wt_RI s.2) (fun s : Int32 × wt_St => ((26 : Int32).toInt - s.1.toInt + 0).toNat) (fun KK1 z2 I3 hKK1 => ?_) _ _ ?_ ?_
  · skip
    obtain ⟨l4, l5, l6⟩ := I3
    unfold wp_md_needsNone_B2
    have k8 : (26 : Int32).toInt = 26 := by decide
    have bb9 := wt_bd z2.1
    refine wt_T_if (fun h10 => ?_) (fun h10 => ?_)
    · skip
      have c11 := wt_cle h10
      refine wt_T_some ?_
      exact ⟨(wt_fr.tr wt_fr.rf l4 (fun i k h => h.elim) (fun i h => by (try dsimp only at h); exact (by first | exact h | omega))), l6⟩
    · skip
      have c12 := wt_ncle h10
      refine wt_T_gd (wt_ix (by first | with_reducible assumption | omega) (by first | with_reducible assumption | omega)) ?_
      obtain ⟨σ13, eσ13⟩ : ∃ z : wt_St, z = wt_sa z2.2 287 (Int32.toNatClampNeg z2.1) (0 : Int32) := ⟨_, rfl⟩
      rw [← eσ13]
      have fσ13 := wt_fr_sa eσ13
      have vσ13 := wt_ceq (wt_v_sa eσ13)
      have bb14 := wt_tn z2.1
      have rσ13 := wt_RI_no l6 eσ13 287 288 (by decide +kernel) (by decide) (by decide)
      refine hKK1 _ ⟨(wt_fr.tr (wt_fr.tr wt_fr.rf l4 (fun i k h => h.elim) (fun i h => by (try dsimp only at h); exact (by first | exact h | omega))) fσ13 (fun i k h => h.elim) (fun i h => by (try dsimp only at h); exact (by first | exact h | omega))), (wt_nn (B := (26 : Int32)) (by first | with_reducible assumption | omega) (by first | with_reducible assumption | omega)), rσ13⟩ ?_
      show ((26 : Int32).toInt - (z2.1 + (1 : Int32)).toInt + 0).toNat < ((26 : Int32).toInt - z2.1.toInt + 0).toNat
      exact wt_mu (by first | with_reducible assumption | omega) (by first | with_reducible assumption | omega)
  · skip
    have k15 : (26 : Int32).toInt = 26 := by decide
    exact ⟨wt_fr.rf, (show 0 ≤ ((0 : Int32)).toInt by omega), r0⟩
  · skip
    have k16 : (26 : Int32).toInt = 26 := by decide
    show ((26 : Int32).toInt - (0 : Int32).toInt + 0).toNat < n
    omega
set_option maxRecDepth 100000 in
set_option maxHeartbeats 4000000 in
theorem wq_md_needsWord (n : Nat) (hn : 4294967297 < n) (x1 : Int32) (σ : wt_St) (r0 : wt_RI σ) (p0 : 0 ≤ x1.toInt) (p1 : x1.toInt ≤ 59) : wt_T (wp_md_needsWord n x1 σ) (fun q => wt_fr (fun i k => False) (fun i => i = 287) σ q ∧ wt_RI q) := by
  have bb1 := wt_bd x1
  unfold wp_md_needsWord
  have k8 : (0 : Int32).toInt = 0 := by decide
  refine wt_T_it (fun s : Int32 × wt_St => wt_fr (fun i k => False) (fun i => i = 287) σ s.2 ∧ 0 ≤ (s.1).toInt ∧ wt_RI s.2) (fun s : Int32 × wt_St => ((wt_ga s.2 126 (Int32.toNatClampNeg x1)).toInt - s.1.toInt + 0).toNat) (fun KK2 z3 I4 hKK2 => ?_) _ _ ?_ ?_
  · skip
    obtain ⟨l5, l6, l7⟩ := I4
    unfold wp_md_needsWord_B2
    have bb9 := wt_tn x1
    have g11 : 0 ≤ (wt_ga z3.2 126 (Int32.toNatClampNeg x1)).toInt ∧ (wt_ga z3.2 126 (Int32.toNatClampNeg x1)).toInt ≤ 9 := wt_Ra5 l7 126 (by decide) (by decide) (Int32.toNatClampNeg x1)
    have tt12 : (wt_ga z3.2 126 (Int32.toNatClampNeg x1)).toInt = (wt_ga σ 126 (Int32.toNatClampNeg x1)).toInt := congrArg Int32.toInt (l5.2 126 (by (try dsimp only); omega) (Int32.toNatClampNeg x1))
    have bb15 := wt_bd z3.1
    refine wt_T_gd (wt_ix (by first | with_reducible assumption | omega) (by first | with_reducible assumption | omega)) ?_
    refine wt_T_if (fun h16 => ?_) (fun h16 => ?_)
    · skip
      have c17 := wt_cle h16
      refine wt_T_some ?_
      exact ⟨(wt_fr.tr wt_fr.rf l5 (fun i k h => h.elim) (fun i h => by (try dsimp only at h); exact (by first | exact h | omega))), l7⟩
    · skip
      have c18 := wt_ncle h16
      refine wt_T_gd (wt_ix (by first | with_reducible assumption | omega) (by first | with_reducible assumption | omega)) ?_
      refine wt_T_gd (wt_ix (by first | with_reducible assumption | omega) (by first | with_reducible assumption | omega)) ?_
      have bb19 := wt_tn z3.1
      have g21 : 0 ≤ (wt_ga z3.2 (193 + (Int32.toNatClampNeg x1)) (Int32.toNatClampNeg z3.1)).toInt ∧ (wt_ga z3.2 (193 + (Int32.toNatClampNeg x1)) (Int32.toNatClampNeg z3.1)).toInt ≤ 25 := wt_Ra8 l7 (193 + (Int32.toNatClampNeg x1)) (show 193 ≤ 193 + (Int32.toNatClampNeg x1) by omega) (show 193 + (Int32.toNatClampNeg x1) < 253 by omega) (Int32.toNatClampNeg z3.1)
      have tt22 : (wt_ga z3.2 (193 + (Int32.toNatClampNeg x1)) (Int32.toNatClampNeg z3.1)).toInt = (wt_ga σ (193 + (Int32.toNatClampNeg x1)) (Int32.toNatClampNeg z3.1)).toInt := congrArg Int32.toInt (l5.2 (193 + (Int32.toNatClampNeg x1)) (by (try dsimp only); omega) (Int32.toNatClampNeg z3.1))
      refine wt_T_gd (wt_ix (by first | with_reducible assumption | omega) (by first | with_reducible assumption | omega)) ?_
      refine wt_T_gd (wt_ix (by first | with_reducible assumption | omega) (by first | with_reducible assumption | omega)) ?_
      obtain ⟨σ25, eσ25⟩ : ∃ z : wt_St, z = wt_sa z3.2 287 (Int32.toNatClampNeg (wt_ga z3.2 (193 + (Int32.toNatClampNeg x1)) (Int32.toNatClampNeg z3.1))) ((wt_ga z3.2 287 (Int32.toNatClampNeg (wt_ga z3.2 (193 + (Int32.toNatClampNeg x1)) (Int32.toNatClampNeg z3.1)))) + (1 : Int32)) := ⟨_, rfl⟩
      rw [← eσ25]
      have fσ25 := wt_fr_sa eσ25
      have vσ25 := wt_ceq (wt_v_sa eσ25)
      have bb26 := wt_tn (wt_ga z3.2 (193 + (Int32.toNatClampNeg x1)) (Int32.toNatClampNeg z3.1))
      have bb27 := wt_bd (wt_ga z3.2 287 (Int32.toNatClampNeg (wt_ga z3.2 (193 + (Int32.toNatClampNeg x1)) (Int32.toNatClampNeg z3.1))))
      have k28 : (1 : Int32).toInt = 1 := by decide
      obtain ⟨j29, j29a, j29b⟩ := wt_addI (wt_ga z3.2 287 (Int32.toNatClampNeg (wt_ga z3.2 (193 + (Int32.toNatClampNeg x1)) (Int32.toNatClampNeg z3.1)))) (1 : Int32)
      have rσ25 := wt_RI_no l7 eσ25 287 288 (by decide +kernel) (by decide) (by decide)
      have g31 : 0 ≤ (wt_ga σ25 126 (Int32.toNatClampNeg x1)).toInt ∧ (wt_ga σ25 126 (Int32.toNatClampNeg x1)).toInt ≤ 9 := wt_Ra5 rσ25 126 (by decide) (by decide) (Int32.toNatClampNeg x1)
      have tt32 : (wt_ga σ25 126 (Int32.toNatClampNeg x1)).toInt = (wt_ga z3.2 126 (Int32.toNatClampNeg x1)).toInt := congrArg Int32.toInt (fσ25.2 126 (by (try dsimp only); omega) (Int32.toNatClampNeg x1))
      refine hKK2 _ ⟨(wt_fr.tr (wt_fr.tr wt_fr.rf l5 (fun i k h => h.elim) (fun i h => by (try dsimp only at h); exact (by first | exact h | omega))) fσ25 (fun i k h => h.elim) (fun i h => by (try dsimp only at h); exact (by first | exact h | omega))), (wt_nn (B := wt_ga z3.2 126 (Int32.toNatClampNeg x1)) (by first | with_reducible assumption | omega) (by first | with_reducible assumption | omega)), rσ25⟩ ?_
      show ((wt_ga σ25 126 (Int32.toNatClampNeg x1)).toInt - (z3.1 + (1 : Int32)).toInt + 0).toNat < ((wt_ga z3.2 126 (Int32.toNatClampNeg x1)).toInt - z3.1.toInt + 0).toNat
      exact wt_mu (by first | with_reducible assumption | omega) (by first | with_reducible assumption | omega)
  · skip
    have bb33 := wt_tn x1
    have g35 : 0 ≤ (wt_ga σ 126 (Int32.toNatClampNeg x1)).toInt ∧ (wt_ga σ 126 (Int32.toNatClampNeg x1)).toInt ≤ 9 := wt_Ra5 r0 126 (by decide) (by decide) (Int32.toNatClampNeg x1)
    exact ⟨wt_fr.rf, (show 0 ≤ ((0 : Int32)).toInt by omega), r0⟩
  · skip
    have bb36 := wt_tn x1
    have g38 : 0 ≤ (wt_ga σ 126 (Int32.toNatClampNeg x1)).toInt ∧ (wt_ga σ 126 (Int32.toNatClampNeg x1)).toInt ≤ 9 := wt_Ra5 r0 126 (by decide) (by decide) (Int32.toNatClampNeg x1)
    show ((wt_ga σ 126 (Int32.toNatClampNeg x1)).toInt - (0 : Int32).toInt + 0).toNat < n
    omega
set_option maxRecDepth 100000 in
set_option maxHeartbeats 4000000 in
theorem wq_md_needsNoneP (n : Nat) (hn : 4294967297 < n) (σ : wt_St) (r0 : wt_RI σ) : wt_T (wp_md_needsNone n σ) (fun q => wt_fr (fun i k => False) (fun i => i = 287) σ q ∧ wt_RI q ∧ ∀ l : Nat, l < 26 → (wt_ga q 287 l).toInt = 0) := by
  unfold wp_md_needsNone
  have k0 : (0 : Int32).toInt = 0 := by decide
  have k26 : (26 : Int32).toInt = 26 := by decide
  refine wt_T_it (fun s : Int32 × wt_St => wt_fr (fun i k => False) (fun i => i = 287) σ s.2 ∧ wt_RI s.2 ∧ 0 ≤ s.1.toInt ∧ ∀ l : Nat, (l : Int) < s.1.toInt → (wt_ga s.2 287 l).toInt = 0) (fun s => (26 - s.1.toInt).toNat) (fun K z hI hK => ?_) n _ ?_ ?_
  · obtain ⟨f, r, l1, l3⟩ := hI
    unfold wp_md_needsNone_B2
    refine wt_T_if (fun h => ?_) (fun h => ?_)
    · have c := wt_cle h
      exact wt_T_some ⟨f, r, fun l hl => l3 l (by first | with_reducible assumption | omega)⟩
    · have c := wt_ncle h
      refine wt_T_gd (wt_ix (by first | with_reducible assumption | omega) (by first | with_reducible assumption | omega)) ?_
      have ei := wt_i1 (c := z.1) (by first | with_reducible assumption | omega)
      have et := wt_tnI l1
      obtain ⟨σ1, e1⟩ : ∃ y : wt_St, y = wt_sa z.2 287 (Int32.toNatClampNeg z.1) (0 : Int32) := ⟨_, rfl⟩
      rw [← e1]
      refine hK _ ⟨wt_fr.tr f (wt_fr_sa e1) (fun i k h => h) (fun i h => h), wt_RI_no r e1 287 288 (by decide +kernel) (by decide) (by decide), (show 0 ≤ (z.1 + (1 : Int32)).toInt by omega), fun l hl => ?_⟩ ?_
      · have hl' : (l : Int) < (z.1 + (1 : Int32)).toInt := hl
        show (wt_ga σ1 287 l).toInt = 0
        by_cases hc : l = Int32.toNatClampNeg z.1
        · subst hc
          rw [wt_v_sa e1]
          exact k0
        · rw [wt_w_sa e1 l hc]
          exact l3 l (by first | with_reducible assumption | omega)
      · show (26 - (z.1 + (1 : Int32)).toInt).toNat < (26 - z.1.toInt).toNat
        omega
  · exact ⟨wt_fr.rf, r0, (show 0 ≤ (0 : Int32).toInt by omega), fun l hl => by
      have hl' : (l : Int) < (0 : Int32).toInt := hl
      omega⟩
  · show (26 - (0 : Int32).toInt).toNat < n
    omega
set_option maxRecDepth 100000 in
set_option maxHeartbeats 4000000 in
theorem wq_md_needsWordP (n : Nat) (hn : 4294967297 < n) (x1 : Int32) (σ : wt_St) (r0 : wt_RI σ) (p0 : 0 ≤ x1.toInt) (p1 : x1.toInt ≤ 59) (hb : ∀ l : Nat, l < 26 → 0 ≤ (wt_ga σ 287 l).toInt ∧ (wt_ga σ 287 l).toInt ≤ 1000) : wt_T (wp_md_needsWord n x1 σ) (fun q => wt_fr (fun i k => False) (fun i => i = 287) σ q ∧ wt_RI q ∧ ∀ l : Nat, l < 26 → (wt_ga q 287 l).toInt = (wt_ga σ 287 l).toInt + wt_nw σ (Int32.toNatClampNeg x1) l) := by
  unfold wp_md_needsWord
  have k0 : (0 : Int32).toInt = 0 := by decide
  have hx := wt_tnI p0
  have gl : 0 ≤ (wt_ga σ 126 (Int32.toNatClampNeg x1)).toInt ∧ (wt_ga σ 126 (Int32.toNatClampNeg x1)).toInt ≤ 9 := wt_Ra5 r0 126 (by decide) (by decide) _
  refine wt_T_it (fun s : Int32 × wt_St => wt_fr (fun i k => False) (fun i => i = 287) σ s.2 ∧ wt_RI s.2 ∧ 0 ≤ s.1.toInt ∧ s.1.toInt ≤ (wt_ga σ 126 (Int32.toNatClampNeg x1)).toInt ∧ ∀ l : Nat, l < 26 → (wt_ga s.2 287 l).toInt = (wt_ga σ 287 l).toInt + wt_ct (fun k => (wt_ga σ (193 + Int32.toNatClampNeg x1) k).toInt) l (Int32.toNatClampNeg s.1)) (fun s => ((wt_ga σ 126 (Int32.toNatClampNeg x1)).toInt - s.1.toInt).toNat) (fun K z hI hK => ?_) n _ ?_ ?_
  · obtain ⟨f, r, l1, l2, l3⟩ := hI
    unfold wp_md_needsWord_B2
    have t126 := f.2 126 (by decide) (Int32.toNatClampNeg x1)
    refine wt_T_gd (wt_ix (by first | with_reducible assumption | omega) (by first | with_reducible assumption | omega)) ?_
    refine wt_T_if (fun h => ?_) (fun h => ?_)
    · have c := wt_cle h
      rw [t126] at c
      refine wt_T_some ⟨f, r, fun l hl => ?_⟩
      rw [l3 l hl]
      have e : z.1 = wt_ga σ 126 (Int32.toNatClampNeg x1) := wt_eqI (by first | with_reducible assumption | omega)
      unfold wt_nw
      rw [e]
    · have c := wt_ncle h
      rw [t126] at c
      have t193 := f.2 (193 + Int32.toNatClampNeg x1) (show ¬ (193 + Int32.toNatClampNeg x1 = 287) by omega) (Int32.toNatClampNeg z.1)
      rw [t193]
      have g : 0 ≤ (wt_ga σ (193 + Int32.toNatClampNeg x1) (Int32.toNatClampNeg z.1)).toInt ∧ (wt_ga σ (193 + Int32.toNatClampNeg x1) (Int32.toNatClampNeg z.1)).toInt ≤ 25 := wt_Ra8 r0 (193 + Int32.toNatClampNeg x1) (show 193 ≤ 193 + Int32.toNatClampNeg x1 by omega) (show 193 + Int32.toNatClampNeg x1 < 253 by omega) _
      have et := wt_tnI l1
      have eg := wt_tnI g.1
      refine wt_T_gd (wt_ix (by first | with_reducible assumption | omega) (by first | with_reducible assumption | omega)) ?_
      refine wt_T_gd (wt_ix (by first | with_reducible assumption | omega) (by first | with_reducible assumption | omega)) ?_
      refine wt_T_gd (wt_ix (by first | with_reducible assumption | omega) (by first | with_reducible assumption | omega)) ?_
      refine wt_T_gd (wt_ix (by first | with_reducible assumption | omega) (by first | with_reducible assumption | omega)) ?_
      have ei := wt_i1 (c := z.1) (by first | with_reducible assumption | omega)
      obtain ⟨σ1, e1⟩ : ∃ y : wt_St, y = wt_sa z.2 287 (Int32.toNatClampNeg (wt_ga σ (193 + Int32.toNatClampNeg x1) (Int32.toNatClampNeg z.1))) ((wt_ga z.2 287 (Int32.toNatClampNeg (wt_ga σ (193 + Int32.toNatClampNeg x1) (Int32.toNatClampNeg z.1)))) + (1 : Int32)) := ⟨_, rfl⟩
      rw [← e1]
      refine hK _ ⟨wt_fr.tr f (wt_fr_sa e1) (fun i k h => h) (fun i h => h), wt_RI_no r e1 287 288 (by decide +kernel) (by decide) (by decide), (show 0 ≤ (z.1 + (1 : Int32)).toInt by omega), (show (z.1 + (1 : Int32)).toInt ≤ (wt_ga σ 126 (Int32.toNatClampNeg x1)).toInt by omega), fun l hl => ?_⟩ ?_
      · show (wt_ga σ1 287 l).toInt = (wt_ga σ 287 l).toInt + wt_ct (fun k => (wt_ga σ (193 + Int32.toNatClampNeg x1) k).toInt) l (Int32.toNatClampNeg (z.1 + (1 : Int32)))
        rw [wt_tn_i1 l1 (by first | with_reducible assumption | omega)]
        show (wt_ga σ1 287 l).toInt = (wt_ga σ 287 l).toInt + (wt_ct (fun k => (wt_ga σ (193 + Int32.toNatClampNeg x1) k).toInt) l (Int32.toNatClampNeg z.1) + if (wt_ga σ (193 + Int32.toNatClampNeg x1) (Int32.toNatClampNeg z.1)).toInt = (l : Int) then 1 else 0)
        have hl3 := l3 l hl
        have hb2 := hb l hl
        have hc := wt_ct_bd (fun k => (wt_ga σ (193 + Int32.toNatClampNeg x1) k).toInt) l (Int32.toNatClampNeg z.1)
        by_cases hl2 : l = Int32.toNatClampNeg (wt_ga σ (193 + Int32.toNatClampNeg x1) (Int32.toNatClampNeg z.1))
        · rw [if_pos (by first | with_reducible assumption | omega), hl2, wt_v_sa e1, ← hl2, wt_i1 (by first | with_reducible assumption | omega), hl3]
          omega
        · rw [if_neg (by first | with_reducible assumption | omega), wt_w_sa e1 l hl2, hl3]
          omega
      · show ((wt_ga σ 126 (Int32.toNatClampNeg x1)).toInt - (z.1 + (1 : Int32)).toInt).toNat < ((wt_ga σ 126 (Int32.toNatClampNeg x1)).toInt - z.1.toInt).toNat
        omega
  · refine ⟨wt_fr.rf, r0, (show 0 ≤ (0 : Int32).toInt by omega), (show (0 : Int32).toInt ≤ (wt_ga σ 126 (Int32.toNatClampNeg x1)).toInt by omega), fun l hl => ?_⟩
    show (wt_ga σ 287 l).toInt = (wt_ga σ 287 l).toInt + wt_ct (fun k => (wt_ga σ (193 + Int32.toNatClampNeg x1) k).toInt) l (Int32.toNatClampNeg (0 : Int32))
    rw [wt_tn0]
    exact (Int.add_zero _).symm
  · show ((wt_ga σ 126 (Int32.toNatClampNeg x1)).toInt - (0 : Int32).toInt).toNat < n
    omega
set_option maxRecDepth 100000 in
set_option maxHeartbeats 4000000 in
theorem wq_md_needsText (n : Nat) (hn : 4294967297 < n) (x1 : Int32) (σ : wt_St) (r0 : wt_RI σ) (p0 : 0 ≤ x1.toInt) (p1 : x1.toInt ≤ 7) : wt_T (wp_md_needsText n x1 σ) (fun q => wt_fr (fun i k => False) (fun i => i = 287) σ q ∧ wt_RI q ∧ wt_NB q ∧ ∀ l : Nat, l < 26 → (wt_ga q 287 l).toInt = wt_nt σ (Int32.toNatClampNeg x1) l) := by
  unfold wp_md_needsText
  have k0 : (0 : Int32).toInt = 0 := by decide
  have hx := wt_tnI p0
  have gl : 0 ≤ (wt_ga σ 253 (Int32.toNatClampNeg x1)).toInt ∧ (wt_ga σ 253 (Int32.toNatClampNeg x1)).toInt ≤ 12 := wt_Ra9 r0 253 (by decide) (by decide) _
  refine wt_T_bi (wq_md_needsNoneP n hn σ r0) (fun q0 h0 => ?_)
  obtain ⟨f0, r1, z0⟩ := h0
  refine wt_T_it (fun s : Int32 × wt_St => wt_fr (fun i k => False) (fun i => i = 287) σ s.2 ∧ wt_RI s.2 ∧ 0 ≤ s.1.toInt ∧ s.1.toInt ≤ (wt_ga σ 253 (Int32.toNatClampNeg x1)).toInt ∧ wt_sum (fun l => (wt_ga s.2 287 l).toInt) 26 ≤ 9 * s.1.toInt ∧ ∀ l : Nat, l < 26 → (wt_ga s.2 287 l).toInt = wt_sum (fun k => wt_nw σ (Int32.toNatClampNeg (wt_ga σ (255 + Int32.toNatClampNeg x1) k)) l) (Int32.toNatClampNeg s.1)) (fun s => ((wt_ga σ 253 (Int32.toNatClampNeg x1)).toInt - s.1.toInt).toNat) (fun K z hI hK => ?_) n _ ?_ ?_
  · obtain ⟨f, r, l1, l2, l4, l3⟩ := hI
    have hbd : ∀ l : Nat, l < 26 → 0 ≤ (wt_ga z.2 287 l).toInt ∧ (wt_ga z.2 287 l).toInt ≤ 9 * (Int32.toNatClampNeg z.1 : Int) := fun l hl => by
      rw [l3 l hl]
      exact wt_sum_bd _ (fun k _ => wt_nw_bd r0 _ _)
    have et := wt_tnI l1
    unfold wp_md_needsText_B6
    have t253 := f.2 253 (by decide) (Int32.toNatClampNeg x1)
    refine wt_T_gd (wt_ix (by first | with_reducible assumption | omega) (by first | with_reducible assumption | omega)) ?_
    refine wt_T_if (fun h => ?_) (fun h => ?_)
    · have c := wt_cle h
      rw [t253] at c
      have e : z.1 = wt_ga σ 253 (Int32.toNatClampNeg x1) := wt_eqI (by first | with_reducible assumption | omega)
      refine wt_T_some ⟨f, r, ⟨fun l hl => (hbd l hl).1, by omega⟩, fun l hl => ?_⟩
      rw [l3 l hl]
      unfold wt_nt
      rw [e]
    · have c := wt_ncle h
      rw [t253] at c
      have t255 := f.2 (255 + Int32.toNatClampNeg x1) (show ¬ (255 + Int32.toNatClampNeg x1 = 287) by omega) (Int32.toNatClampNeg z.1)
      rw [t255]
      have g : 0 ≤ (wt_ga σ (255 + Int32.toNatClampNeg x1) (Int32.toNatClampNeg z.1)).toInt ∧ (wt_ga σ (255 + Int32.toNatClampNeg x1) (Int32.toNatClampNeg z.1)).toInt ≤ 59 := wt_Ra10 r0 (255 + Int32.toNatClampNeg x1) (show 255 ≤ 255 + Int32.toNatClampNeg x1 by omega) (show 255 + Int32.toNatClampNeg x1 < 263 by omega) _
      refine wt_T_gd (wt_ix (by first | with_reducible assumption | omega) (by first | with_reducible assumption | omega)) ?_
      refine wt_T_gd (wt_ix (by first | with_reducible assumption | omega) (by first | with_reducible assumption | omega)) ?_
      refine wt_T_bi (wq_md_needsWordP n hn _ z.2 r g.1 g.2 (fun l hl => by have := hbd l hl; omega)) (fun q hq => ?_)
      obtain ⟨fq, rq, pq⟩ := hq
      have ei := wt_i1 (c := z.1) (by first | with_reducible assumption | omega)
      have enw : ∀ l : Int, wt_nw z.2 (Int32.toNatClampNeg (wt_ga σ (255 + Int32.toNatClampNeg x1) (Int32.toNatClampNeg z.1))) l = wt_nw σ (Int32.toNatClampNeg (wt_ga σ (255 + Int32.toNatClampNeg x1) (Int32.toNatClampNeg z.1))) l := fun l => wt_nw_fr (wt_tnle (b := 59) g.2) (fun i hi j => f.2 i (fun h => by unfold wt_PA at hi; omega) j)
      refine hK _ ⟨wt_fr.tr f fq (fun i k h => h) (fun i h => h), rq, (show 0 ≤ (z.1 + (1 : Int32)).toInt by omega), (show (z.1 + (1 : Int32)).toInt ≤ (wt_ga σ 253 (Int32.toNatClampNeg x1)).toInt by omega), ?_, fun l hl => ?_⟩ ?_
      · show wt_sum (fun l => (wt_ga q 287 l).toInt) 26 ≤ 9 * (z.1 + (1 : Int32)).toInt
        rw [wt_sum_congr (g := fun l => (wt_ga z.2 287 l).toInt + wt_nw σ (Int32.toNatClampNeg (wt_ga σ (255 + Int32.toNatClampNeg x1) (Int32.toNatClampNeg z.1))) (l : Int)) 26 (fun l hl => by rw [pq l hl, enw]), wt_sum_add]
        have hs : wt_sum (fun l => wt_nw σ (Int32.toNatClampNeg (wt_ga σ (255 + Int32.toNatClampNeg x1) (Int32.toNatClampNeg z.1))) (l : Int)) 26 ≤ 9 := by
          have h1 := wt_sum_ct (fun k => (wt_ga σ (193 + Int32.toNatClampNeg (wt_ga σ (255 + Int32.toNatClampNeg x1) (Int32.toNatClampNeg z.1))) k).toInt) 26 (Int32.toNatClampNeg (wt_ga σ 126 (Int32.toNatClampNeg (wt_ga σ (255 + Int32.toNatClampNeg x1) (Int32.toNatClampNeg z.1)))))
          have g9 : 0 ≤ (wt_ga σ 126 (Int32.toNatClampNeg (wt_ga σ (255 + Int32.toNatClampNeg x1) (Int32.toNatClampNeg z.1)))).toInt ∧ (wt_ga σ 126 (Int32.toNatClampNeg (wt_ga σ (255 + Int32.toNatClampNeg x1) (Int32.toNatClampNeg z.1)))).toInt ≤ 9 := wt_Ra5 r0 126 (by decide) (by decide) _
          have := wt_tnI g9.1
          unfold wt_nw
          omega
        omega
      · show (wt_ga q 287 l).toInt = wt_sum (fun k => wt_nw σ (Int32.toNatClampNeg (wt_ga σ (255 + Int32.toNatClampNeg x1) k)) l) (Int32.toNatClampNeg (z.1 + (1 : Int32)))
        rw [wt_tn_i1 l1 (by first | with_reducible assumption | omega), pq l hl, l3 l hl, enw]
        rfl
      · show ((wt_ga σ 253 (Int32.toNatClampNeg x1)).toInt - (z.1 + (1 : Int32)).toInt).toNat < ((wt_ga σ 253 (Int32.toNatClampNeg x1)).toInt - z.1.toInt).toNat
        omega
  · refine ⟨f0, r1, (show 0 ≤ (0 : Int32).toInt by omega), (show (0 : Int32).toInt ≤ (wt_ga σ 253 (Int32.toNatClampNeg x1)).toInt by omega), ?_, fun l hl => ?_⟩
    · show wt_sum (fun l => (wt_ga q0 287 l).toInt) 26 ≤ 9 * (0 : Int32).toInt
      have := (wt_sum_bd (c := 0) (f := fun l => (wt_ga q0 287 l).toInt) 26 (fun k hk => by show 0 ≤ (wt_ga q0 287 k).toInt ∧ (wt_ga q0 287 k).toInt ≤ 0; rw [z0 k hk]; omega)).2
      omega
    · show (wt_ga q0 287 l).toInt = wt_sum (fun k => wt_nw σ (Int32.toNatClampNeg (wt_ga σ (255 + Int32.toNatClampNeg x1) k)) l) (Int32.toNatClampNeg (0 : Int32))
      rw [wt_tn0, z0 l hl]
      rfl
  · show ((wt_ga σ 253 (Int32.toNatClampNeg x1)).toInt - (0 : Int32).toInt).toNat < n
    omega

set_option maxRecDepth 100000 in
set_option maxHeartbeats 4000000 in
theorem wq_md_boundOf_C (n : Nat) (hn : 4294967297 < n) (x2 x3 : Int32) (σ : wt_St) (r0 : wt_RI σ) (p0 : 0 ≤ x2.toInt) (hu : ∀ j : Nat, (j : Int) < (wt_gf σ 108 40).toInt → 0 ≤ (wt_ga σ 320 j).toInt) : wt_T (wt_it (wp_md_boundOf_B114 n) n (x2, x3, (0 : Int32), σ)) (fun q => wt_fr (fun i k => False) (fun i => i = 320) σ q.2 ∧ wt_RI q.2) := by
  have k0 : (0 : Int32).toInt = 0 := by decide
  have k1 : (1 : Int32).toInt = 1 := by decide
  have k3 : (3 : Int32).toInt = 3 := by decide
  have gw : 0 ≤ (wt_gf σ 108 40).toInt ∧ (wt_gf σ 108 40).toInt ≤ 10 := wt_Rf8 r0
  have hgw := wt_tnI gw.1
  refine wt_T_it (fun s : Int32 × Int32 × Int32 × wt_St => wt_fr (fun i k => False) (fun i => i = 320) σ s.2.2.2 ∧ wt_RI s.2.2.2 ∧ 0 ≤ s.1.toInt ∧ 0 ≤ s.2.2.1.toInt ∧ wt_un s.2.2.2 (Int32.toNatClampNeg (wt_gf σ 108 40)) ≤ s.2.2.1.toInt) (fun s => ((wt_gf σ 108 40).toInt - s.2.2.1.toInt).toNat) (fun K114 y hJ hK114 => ?_) n _ ?_ ?_
  · obtain ⟨fy, ry, m1, m2, m3⟩ := hJ
    unfold wt_un at m3
    have tw : wt_gf y.2.2.2 108 40 = wt_gf σ 108 40 := fy.1 108 40 (fun h => h)
    unfold wp_md_boundOf_B114
    rw [tw]
    refine wt_T_if (fun h => wt_T_some ⟨fy, ry⟩) (fun h => ?_)
    have c := wt_ncle h
    refine wt_T_it (fun s : Int32 × Int32 × wt_St => s.2.2 = y.2.2.2 ∧ 0 ≤ s.2.1.toInt ∧ ((s.1.toInt = -1 ∧ ∀ j : Nat, (j : Int) < s.2.1.toInt → (wt_ga y.2.2.2 320 j).toInt < 0) ∨ (0 ≤ s.1.toInt ∧ s.1.toInt ≤ 9 ∧ 0 ≤ (wt_ga y.2.2.2 320 (Int32.toNatClampNeg s.1)).toInt))) (fun s => ((wt_gf σ 108 40).toInt - s.2.1.toInt).toNat) (fun K129 u hU hK129 => ?_) n _ ?_ ?_
    · obtain ⟨e, n1, n2⟩ := hU
      have en := wt_tnI n1
      unfold wp_md_boundOf_B129
      rw [e, tw]
      refine wt_T_if (fun h2 => ?_) (fun h2 => ?_)
      · have c2 := wt_cle h2
        have hb : 0 ≤ u.1.toInt ∧ u.1.toInt ≤ 9 ∧ 0 ≤ (wt_ga y.2.2.2 320 (Int32.toNatClampNeg u.1)).toInt := by
          rcases n2 with n2 | n2
          · exfalso
            have := wt_sum_all (f := fun j => if (wt_ga y.2.2.2 320 j).toInt < 0 then (1 : Int) else 0) (Int32.toNatClampNeg (wt_gf σ 108 40)) (fun k hk => if_pos (n2.2 k (by first | with_reducible assumption | omega)))
            omega
          · exact n2
        refine wt_T_gd (wt_ix (by first | with_reducible assumption | omega) (by first | with_reducible assumption | omega)) ?_
        refine wt_T_if (fun h3 => ?_) (fun h3 => ?_)
        · have c3 := wt_cle h3
          refine wt_T_gd (wt_ix (by first | with_reducible assumption | omega) (by first | with_reducible assumption | omega)) ?_
          refine wt_T_gd (wt_ix (by first | with_reducible assumption | omega) (by first | with_reducible assumption | omega)) ?_
          refine wt_T_gd (wt_ix (by first | with_reducible assumption | omega) (by first | with_reducible assumption | omega)) ?_
          refine wt_T_gd (wt_ix (by first | with_reducible assumption | omega) (by first | with_reducible assumption | omega)) ?_
          obtain ⟨σ1, ε1⟩ : ∃ o : wt_St, o = wt_sa y.2.2.2 320 (Int32.toNatClampNeg u.1) (-1 : Int32) := ⟨_, rfl⟩
          rw [← ε1]
          have ei := wt_i1 (c := y.2.2.1) (by first | with_reducible assumption | omega)
          have es : (y.1 - wt_ga y.2.2.2 320 (Int32.toNatClampNeg u.1)).toInt = y.1.toInt - (wt_ga y.2.2.2 320 (Int32.toNatClampNeg u.1)).toInt := wt_subE (by first | with_reducible assumption | omega) (by have := wt_bd y.1; omega)
          refine hK114 _ ⟨wt_fr.tr fy (wt_fr_sa ε1) (fun i k h => h) (fun i h => h), wt_RI_no ry ε1 320 321 (by decide +kernel) (by decide) (by decide), (show 0 ≤ (y.1 - wt_ga y.2.2.2 320 (Int32.toNatClampNeg u.1)).toInt by omega), (show 0 ≤ (y.2.2.1 + (1 : Int32)).toInt by omega), ?_⟩ (show ((wt_gf σ 108 40).toInt - (y.2.2.1 + (1 : Int32)).toInt).toNat < ((wt_gf σ 108 40).toInt - y.2.2.1.toInt).toNat by omega)
          show wt_sum (fun j => if (wt_ga σ1 320 j).toInt < 0 then (1 : Int) else 0) (Int32.toNatClampNeg (wt_gf σ 108 40)) ≤ (y.2.2.1 + (1 : Int32)).toInt
          have := (wt_sum_off (f := fun j => if (wt_ga σ1 320 j).toInt < 0 then (1 : Int) else 0) (g := fun j => if (wt_ga y.2.2.2 320 j).toInt < 0 then (1 : Int) else 0) (j := Int32.toNatClampNeg u.1) (Int32.toNatClampNeg (wt_gf σ 108 40)) (fun k _ hne => by
            show (if (wt_ga σ1 320 k).toInt < 0 then (1 : Int) else 0) = (if (wt_ga y.2.2.2 320 k).toInt < 0 then (1 : Int) else 0)
            rw [wt_w_sa ε1 k hne]) (by
            show (if (wt_ga σ1 320 (Int32.toNatClampNeg u.1)).toInt < 0 then (1 : Int) else 0) ≤ (if (wt_ga y.2.2.2 320 (Int32.toNatClampNeg u.1)).toInt < 0 then (1 : Int) else 0) + 1
            split <;> split <;> omega)).1
          omega
        · have c3 := wt_ncle h3
          refine wt_T_gd (wt_ix (by first | with_reducible assumption | omega) (by first | with_reducible assumption | omega)) ?_
          refine wt_T_gd (wt_ix (by first | with_reducible assumption | omega) (by first | with_reducible assumption | omega)) ?_
          refine wt_T_gd (wt_ix (by first | with_reducible assumption | omega) (by first | with_reducible assumption | omega)) ?_
          refine wt_T_gd (fun h4 => by have := wt_ceq h4; omega) ?_
          exact wt_T_some ⟨fy, ry⟩
      · have c2 := wt_ncle h2
        have ei := wt_i1 (c := u.2.1) (by first | with_reducible assumption | omega)
        have step : ∀ y0 : Int32, ((y0.toInt = -1 ∧ ∀ j : Nat, (j : Int) < (u.2.1 + (1 : Int32)).toInt → (wt_ga y.2.2.2 320 j).toInt < 0) ∨ (0 ≤ y0.toInt ∧ y0.toInt ≤ 9 ∧ 0 ≤ (wt_ga y.2.2.2 320 (Int32.toNatClampNeg y0)).toInt)) → wt_T (wp_md_boundOf_B203 n y.1 y.2.1 y.2.2.1 y0 u.2.1 K114 K129 y.2.2.2) (fun q => wt_fr (fun i k => False) (fun i => i = 320) σ q.2 ∧ wt_RI q.2) := by
          intro y0 hy0
          unfold wp_md_boundOf_B203
          exact hK129 _ ⟨rfl, (show 0 ≤ (u.2.1 + (1 : Int32)).toInt by omega), hy0⟩ (show ((wt_gf σ 108 40).toInt - (u.2.1 + (1 : Int32)).toInt).toNat < ((wt_gf σ 108 40).toInt - u.2.1.toInt).toNat by omega)
        refine wt_T_gd (wt_ix (by first | with_reducible assumption | omega) (by first | with_reducible assumption | omega)) ?_
        refine wt_T_if (fun h3 => ?_) (fun h3 => ?_)
        · have c3 := wt_cle h3
          have new : wt_T (wp_md_boundOf_B194 n y.1 y.2.1 y.2.2.1 u.2.1 K114 K129 y.2.2.2) (fun q => wt_fr (fun i k => False) (fun i => i = 320) σ q.2 ∧ wt_RI q.2) := by
            unfold wp_md_boundOf_B194 wp_md_boundOf_B201
            exact step _ (Or.inr ⟨n1, by omega, by omega⟩)
          refine wt_T_if (fun _ => new) (fun h4 => ?_)
          have c4 := wt_nceq h4
          rw [wt_lm1] at c4
          have hb : 0 ≤ u.1.toInt ∧ u.1.toInt ≤ 9 ∧ 0 ≤ (wt_ga y.2.2.2 320 (Int32.toNatClampNeg u.1)).toInt := by
            rcases n2 with n2 | n2
            · exact absurd n2.1 c4
            · exact n2
          refine wt_T_gd (wt_ix (by first | with_reducible assumption | omega) (by first | with_reducible assumption | omega)) ?_
          refine wt_T_gd (wt_ix (by first | with_reducible assumption | omega) (by first | with_reducible assumption | omega)) ?_
          refine wt_T_gd (wt_ix (by first | with_reducible assumption | omega) (by first | with_reducible assumption | omega)) ?_
          refine wt_T_gd (wt_ix (by first | with_reducible assumption | omega) (by first | with_reducible assumption | omega)) ?_
          refine wt_T_gd (wt_ix (by first | with_reducible assumption | omega) (by first | with_reducible assumption | omega)) ?_
          refine wt_T_gd (wt_ix (by first | with_reducible assumption | omega) (by first | with_reducible assumption | omega)) ?_
          refine wt_T_if (fun _ => ?_) (fun _ => new)
          unfold wp_md_boundOf_B201
          exact step _ (Or.inr hb)
        · have c3 := wt_ncle h3
          refine step _ ?_
          rcases n2 with n2 | n2
          · refine Or.inl ⟨n2.1, fun j hj => ?_⟩
            by_cases hc : j = Int32.toNatClampNeg u.2.1
            · rw [hc]
              omega
            · exact n2.2 j (by first | with_reducible assumption | omega)
          · exact Or.inr n2
    · refine ⟨rfl, (show 0 ≤ (0 : Int32).toInt by omega), Or.inl ⟨wt_lm1, fun j hj => ?_⟩⟩
      have hj' : (j : Int) < (0 : Int32).toInt := hj
      omega
    · show ((wt_gf σ 108 40).toInt - (0 : Int32).toInt).toNat < n
      omega
  · refine ⟨wt_fr.rf, r0, p0, (show 0 ≤ (0 : Int32).toInt by omega), ?_⟩
    show wt_sum (fun j => if (wt_ga σ 320 j).toInt < 0 then (1 : Int) else 0) (Int32.toNatClampNeg (wt_gf σ 108 40)) ≤ (0 : Int32).toInt
    have := wt_sum_bd (f := fun j => if (wt_ga σ 320 j).toInt < 0 then (1 : Int) else 0) (c := 0) (Int32.toNatClampNeg (wt_gf σ 108 40)) (fun k hk => by
      show 0 ≤ (if (wt_ga σ 320 k).toInt < 0 then (1 : Int) else 0) ∧ (if (wt_ga σ 320 k).toInt < 0 then (1 : Int) else 0) ≤ 0
      rw [if_neg (by have := hu k (by first | with_reducible assumption | omega); omega)]
      omega)
    omega
  · show ((wt_gf σ 108 40).toInt - (0 : Int32).toInt).toNat < n
    omega
set_option maxRecDepth 100000 in
set_option maxHeartbeats 4000000 in
theorem wq_md_boundOf (n : Nat) (hn : 4294967297 < n) (x1 : Int32) (σ : wt_St) (r0 : wt_RI σ) (p0 : 0 ≤ x1.toInt) (p1 : x1.toInt ≤ 25) : wt_T (wp_md_boundOf n x1 σ) (fun q => wt_fr (fun i k => False) (fun i => i = 320 ∨ i = 287) σ q.2 ∧ wt_RI q.2) := by
  unfold wp_md_boundOf
  have k0 : (0 : Int32).toInt = 0 := by decide
  have k1 : (1 : Int32).toInt = 1 := by decide
  have hx := wt_tnI p0
  have gm : 0 ≤ (wt_ga σ 111 (Int32.toNatClampNeg x1)).toInt ∧ (wt_ga σ 111 (Int32.toNatClampNeg x1)).toInt ≤ 13 := wt_Ra1 r0 111 (by decide) (by decide) _
  refine wt_T_it (fun s : Int32 × Int32 × wt_St => s.2.2 = σ ∧ 0 ≤ s.2.1.toInt ∧ s.2.1.toInt ≤ 13 ∧ 0 ≤ s.1.toInt ∧ s.1.toInt ≤ 400 * s.2.1.toInt) (fun s => (13 - s.2.1.toInt).toNat) (fun K10 z hI hK10 => ?_) n _ ?_ ?_
  · obtain ⟨e, l1, l2, l3, l4⟩ := hI
    have et := wt_tnI l1
    unfold wp_md_boundOf_B10
    rw [e]
    refine wt_T_gd (wt_ix (by first | with_reducible assumption | omega) (by first | with_reducible assumption | omega)) ?_
    refine wt_T_if (fun h => ?_) (fun h => ?_)
    · refine wt_T_it (fun s : Int32 × wt_St => wt_fr (fun i k => False) (fun i => i = 320 ∨ i = 287) σ s.2 ∧ wt_RI s.2 ∧ 0 ≤ s.1.toInt ∧ ∀ j : Nat, (j : Int) < s.1.toInt → 0 ≤ (wt_ga s.2 320 j).toInt) (fun s => ((wt_gf σ 108 40).toInt - s.1.toInt).toNat) (fun K63 y hJ hK63 => ?_) n _ ?_ ?_
      · obtain ⟨fy, ry, m1, m2⟩ := hJ
        have em := wt_tnI m1
        have tw : wt_gf y.2 108 40 = wt_gf σ 108 40 := fy.1 108 40 (fun h => h)
        have gw : 0 ≤ (wt_gf y.2 108 40).toInt ∧ (wt_gf y.2 108 40).toInt ≤ 10 := wt_Rf8 ry
        unfold wp_md_boundOf_B63
        refine wt_T_if (fun h2 => ?_) (fun h2 => ?_)
        · have c2 := wt_cle h2
          exact wt_T.imp (wq_md_boundOf_C n hn z.1 0 y.2 ry l3 (fun j hj => m2 j (by first | with_reducible assumption | omega))) (fun q hq => ⟨wt_fr.tr fy hq.1 (fun i k h => h) (fun i h => Or.inl h), hq.2⟩)
        · have c2 := wt_ncle h2
          rw [tw] at c2 gw
          have ei := wt_i1 (c := y.1) (by first | with_reducible assumption | omega)
          refine wt_T_gd (wt_ix (by first | with_reducible assumption | omega) (by first | with_reducible assumption | omega)) ?_
          refine wt_T_gd (wt_ix (by first | with_reducible assumption | omega) (by first | with_reducible assumption | omega)) ?_
          have g0 := wt_R_w0 ry (264 + Int32.toNatClampNeg y.1) (by first | with_reducible assumption | omega) (by first | with_reducible assumption | omega)
          refine wt_T_bi (wq_md_needsText n hn _ y.2 ry g0.1 g0.2) (fun q hq => ?_)
          obtain ⟨fq, rq, nb, -⟩ := hq
          have hb := wt_NB_le nb (Int32.toNatClampNeg x1) (by first | with_reducible assumption | omega)
          have g1 := wt_R_w1 rq (264 + Int32.toNatClampNeg y.1) (by first | with_reducible assumption | omega) (by first | with_reducible assumption | omega)
          have hp0 : 0 ≤ (wt_ga q 287 (Int32.toNatClampNeg x1)).toInt * (wt_ga q (264 + Int32.toNatClampNeg y.1) (Int32.toNatClampNeg (1 : Int32))).toInt := Int.mul_nonneg hb.1 g1.1
          have hp1 : (wt_ga q 287 (Int32.toNatClampNeg x1)).toInt * (wt_ga q (264 + Int32.toNatClampNeg y.1) (Int32.toNatClampNeg (1 : Int32))).toInt ≤ 108 * 400 := Int.mul_le_mul hb.2 g1.2 g1.1 (by first | with_reducible assumption | omega)
          have hpe := wt_mulE (x := wt_ga q 287 (Int32.toNatClampNeg x1)) (y := wt_ga q (264 + Int32.toNatClampNeg y.1) (Int32.toNatClampNeg (1 : Int32))) (by first | with_reducible assumption | omega) (by first | with_reducible assumption | omega)
          refine wt_T_gd (wt_ix (by first | with_reducible assumption | omega) (by first | with_reducible assumption | omega)) ?_
          refine wt_T_gd (wt_ix (by first | with_reducible assumption | omega) (by first | with_reducible assumption | omega)) ?_
          refine wt_T_gd (wt_ix (by first | with_reducible assumption | omega) (by first | with_reducible assumption | omega)) ?_
          refine wt_T_gd (wt_ix (by first | with_reducible assumption | omega) (by first | with_reducible assumption | omega)) ?_
          obtain ⟨σ1, ε1⟩ : ∃ o : wt_St, o = wt_sa q 320 (Int32.toNatClampNeg y.1) ((wt_ga q 287 (Int32.toNatClampNeg x1)) * (wt_ga q (264 + Int32.toNatClampNeg y.1) (Int32.toNatClampNeg (1 : Int32)))) := ⟨_, rfl⟩
          rw [← ε1]
          refine hK63 _ ⟨wt_fr.tr (wt_fr.tr fy fq (fun i k h => h) (fun i h => Or.inr h)) (wt_fr_sa ε1) (fun i k h => h) (fun i h => Or.inl h), wt_RI_no rq ε1 320 321 (by decide +kernel) (by decide) (by decide), (show 0 ≤ (y.1 + (1 : Int32)).toInt by omega), fun j hj => ?_⟩ (show ((wt_gf σ 108 40).toInt - (y.1 + (1 : Int32)).toInt).toNat < ((wt_gf σ 108 40).toInt - y.1.toInt).toNat by omega)
          have hj' : (j : Int) < (y.1 + (1 : Int32)).toInt := hj
          show 0 ≤ (wt_ga σ1 320 j).toInt
          by_cases hc : j = Int32.toNatClampNeg y.1
          · rw [hc, wt_v_sa ε1, hpe]
            exact hp0
          · rw [wt_w_sa ε1 j hc, fq.2 320 (by decide) j]
            exact m2 j (by first | with_reducible assumption | omega)
      · refine ⟨wt_fr.rf, r0, (show 0 ≤ (0 : Int32).toInt by omega), fun j hj => ?_⟩
        have hj' : (j : Int) < (0 : Int32).toInt := hj
        omega
      · show ((wt_gf σ 108 40).toInt - (0 : Int32).toInt).toNat < n
        have := wt_bd (wt_gf σ 108 40)
        omega
    · have c := wt_ncle h
      have ei := wt_i1 (c := z.2.1) (by first | with_reducible assumption | omega)
      have step : ∀ y1 : Int32, 0 ≤ y1.toInt → y1.toInt ≤ 400 → wt_T (wp_md_boundOf_B52 n x1 0 0 z.2.1 K10 z.1 y1 σ) (fun q => wt_fr (fun i k => False) (fun i => i = 320 ∨ i = 287) σ q.2 ∧ wt_RI q.2) := by
        intro y1 h1 h2
        have ea : (z.1 + y1).toInt = z.1.toInt + y1.toInt := wt_addE (by first | with_reducible assumption | omega) (by first | with_reducible assumption | omega)
        unfold wp_md_boundOf_B52
        exact hK10 _ ⟨rfl, (show 0 ≤ (z.2.1 + (1 : Int32)).toInt by omega), (show (z.2.1 + (1 : Int32)).toInt ≤ 13 by omega), (show 0 ≤ (z.1 + y1).toInt by omega), (show (z.1 + y1).toInt ≤ 400 * (z.2.1 + (1 : Int32)).toInt by omega)⟩ (show (13 - (z.2.1 + (1 : Int32)).toInt).toNat < (13 - z.2.1.toInt).toNat by omega)
      refine wt_T_bi (wq_md_cell n hn x1 z.2.1 σ r0 p0 p1 l1 (by first | with_reducible assumption | omega)) (fun q3 h3 => ?_)
      obtain ⟨e3, v3⟩ := h3
      rw [e3]
      refine wt_T_gd (wt_ix (by first | with_reducible assumption | omega) (by first | with_reducible assumption | omega)) ?_
      refine wt_T_if (fun h4 => ?_) (fun h4 => ?_)
      · refine wt_T_bi (wq_md_cell n hn x1 z.2.1 σ r0 p0 p1 l1 (by first | with_reducible assumption | omega)) (fun q6 h6 => ?_)
        obtain ⟨e6, v6⟩ := h6
        rw [e6]
        have ix := wt_tnI (x := q6.1) (by first | with_reducible assumption | omega)
        have hl : 0 ≤ (wt_ga σ 121 (Int32.toNatClampNeg q6.1)).toInt ∧ (wt_ga σ 121 (Int32.toNatClampNeg q6.1)).toInt ≤ 400 := wt_Ra3 r0 121 (by decide) (by decide) _
        refine wt_T_gd (wt_ix (by first | with_reducible assumption | omega) (by first | with_reducible assumption | omega)) ?_
        exact step _ hl.1 hl.2
      · exact step _ (by first | with_reducible assumption | omega) (by first | with_reducible assumption | omega)
  · exact ⟨rfl, (show 0 ≤ (0 : Int32).toInt by omega), (show (0 : Int32).toInt ≤ 13 by omega), (show 0 ≤ (0 : Int32).toInt by omega), (show (0 : Int32).toInt ≤ 400 * (0 : Int32).toInt by omega)⟩
  · show (13 - (0 : Int32).toInt).toNat < n
    omega

set_option maxRecDepth 100000 in
set_option maxHeartbeats 4000000 in
theorem wq_md_bound (n : Nat) (hn : 4294967297 < n) (σ : wt_St) (r0 : wt_RI σ) : wt_T (wp_md_bound n σ) (fun q => wt_fr (fun i k => (i = 108 ∧ k = 0)) (fun i => i = 320 ∨ i = 287) σ q.2 ∧ wt_RI q.2) := by
  unfold wp_md_bound
  obtain ⟨σ1, eσ1⟩ : ∃ z : wt_St, z = wt_sf σ 108 0 (0 : Int32) := ⟨_, rfl⟩
  rw [← eσ1]
  have fσ1 := wt_fr_sf eσ1
  have vσ1 := wt_ceq (wt_v_sf eσ1)
  have k2 : (0 : Int32).toInt = 0 := by decide
  have rσ1 := wt_RI_fno r0 eσ1 (Or.inr (by decide +kernel))
  refine wt_T_bi (wq_md_boundOf n hn (0 : Int32) σ1 rσ1 (by first | with_reducible assumption | omega) (by first | with_reducible assumption | omega)) (fun r3 h4 => ?_)
  obtain ⟨f5, ri6⟩ := h4
  have bb7 := wt_bd r3.1
  have k14 : (1 : Int32).toInt = 1 := by decide
  refine wt_T_it (fun s : Int32 × Int32 × wt_St => wt_fr (fun i k => False) (fun i => i = 320 ∨ i = 287) r3.2 s.2.2 ∧ 0 ≤ (s.2.1).toInt ∧ wt_RI s.2.2) (fun s : Int32 × Int32 × wt_St => ((26 : Int32).toInt - s.2.1.toInt + 0).toNat) (fun KK8 z9 I10 hKK8 => ?_) _ _ ?_ ?_
  · skip
    obtain ⟨l11, l12, l13⟩ := I10
    unfold wp_md_bound_B13
    have k15 : (26 : Int32).toInt = 26 := by decide
    have bb16 := wt_bd z9.2.1
    refine wt_T_if (fun h17 => ?_) (fun h17 => ?_)
    · skip
      have c18 := wt_cle h17
      refine wt_T_some ?_
      exact ⟨(wt_fr.tr (wt_fr.tr (wt_fr.tr wt_fr.rf fσ1 (fun i k h => by (try dsimp only at h); exact (by first | exact h | omega)) (fun i h => h.elim)) f5 (fun i k h => h.elim) (fun i h => by (try dsimp only at h); rcases h with h | h; exact Or.inl (by first | exact h | omega); exact Or.inr (by first | exact h | omega))) l11 (fun i k h => h.elim) (fun i h => by (try dsimp only at h); rcases h with h | h; exact Or.inl (by first | exact h | omega); exact Or.inr (by first | exact h | omega))), l13⟩
    · skip
      have c19 := wt_ncle h17
      refine wt_T_bi (wq_md_boundOf n hn z9.2.1 z9.2.2 l13 (by first | with_reducible assumption | omega) (by first | with_reducible assumption | omega)) (fun r20 h21 => ?_)
      obtain ⟨f22, ri23⟩ := h21
      have bb24 := wt_bd r20.1
      have bb25 := wt_bd z9.1
      refine wt_T_if (fun h26 => ?_) (fun h26 => ?_)
      · skip
        have c27 := wt_cle h26
        unfold wp_md_bound_B37
        refine hKK8 _ ⟨(wt_fr.tr (wt_fr.tr wt_fr.rf l11 (fun i k h => h.elim) (fun i h => by (try dsimp only at h); rcases h with h | h; exact Or.inl (by first | exact h | omega); exact Or.inr (by first | exact h | omega))) f22 (fun i k h => h.elim) (fun i h => by (try dsimp only at h); rcases h with h | h; exact Or.inl (by first | exact h | omega); exact Or.inr (by first | exact h | omega))), (wt_nn (B := (26 : Int32)) (by first | with_reducible assumption | omega) (by first | with_reducible assumption | omega)), ri23⟩ ?_
        show ((26 : Int32).toInt - (z9.2.1 + (1 : Int32)).toInt + 0).toNat < ((26 : Int32).toInt - z9.2.1.toInt + 0).toNat
        exact wt_mu (by first | with_reducible assumption | omega) (by first | with_reducible assumption | omega)
      · skip
        have c28 := wt_ncle h26
        refine wt_T_bi (wq_md_boundOf n hn z9.2.1 r20.2 ri23 (by first | with_reducible assumption | omega) (by first | with_reducible assumption | omega)) (fun r29 h30 => ?_)
        obtain ⟨f31, ri32⟩ := h30
        have bb33 := wt_bd r29.1
        unfold wp_md_bound_B37
        refine hKK8 _ ⟨(wt_fr.tr (wt_fr.tr (wt_fr.tr wt_fr.rf l11 (fun i k h => h.elim) (fun i h => by (try dsimp only at h); rcases h with h | h; exact Or.inl (by first | exact h | omega); exact Or.inr (by first | exact h | omega))) f22 (fun i k h => h.elim) (fun i h => by (try dsimp only at h); rcases h with h | h; exact Or.inl (by first | exact h | omega); exact Or.inr (by first | exact h | omega))) f31 (fun i k h => h.elim) (fun i h => by (try dsimp only at h); rcases h with h | h; exact Or.inl (by first | exact h | omega); exact Or.inr (by first | exact h | omega))), (wt_nn (B := (26 : Int32)) (by first | with_reducible assumption | omega) (by first | with_reducible assumption | omega)), ri32⟩ ?_
        show ((26 : Int32).toInt - (z9.2.1 + (1 : Int32)).toInt + 0).toNat < ((26 : Int32).toInt - z9.2.1.toInt + 0).toNat
        exact wt_mu (by first | with_reducible assumption | omega) (by first | with_reducible assumption | omega)
  · skip
    have k34 : (26 : Int32).toInt = 26 := by decide
    exact ⟨wt_fr.rf, (show 0 ≤ ((1 : Int32)).toInt by omega), ri6⟩
  · skip
    have k35 : (26 : Int32).toInt = 26 := by decide
    show ((26 : Int32).toInt - (1 : Int32).toInt + 0).toNat < n
    omega
set_option maxRecDepth 100000 in
set_option maxHeartbeats 4000000 in
theorem wq_md_goodFor (n : Nat) (hn : 4294967297 < n) (x1 : Int32) (x2 : Int32) (σ : wt_St) (r0 : wt_RI σ) (p0 : 0 ≤ x1.toInt) (p1 : x1.toInt ≤ 25) : wt_T (wp_md_goodFor n x1 x2 σ) (fun q => q.2 = σ) := by
  have bb1 := wt_bd x1
  have bb2 := wt_bd x2
  unfold wp_md_goodFor
  have k8 : (0 : Int32).toInt = 0 := by decide
  refine wt_T_it (fun s : Int32 × Int32 × wt_St => s.2.2 = σ ∧ 0 ≤ (s.2.1).toInt) (fun s : Int32 × Int32 × wt_St => ((wt_ga s.2.2 111 (Int32.toNatClampNeg x1)).toInt - s.2.1.toInt + 0).toNat) (fun KK3 z4 I5 hKK3 => ?_) _ _ ?_ ?_
  · skip
    obtain ⟨l6, l7⟩ := I5
    unfold wp_md_goodFor_B5
    rw [l6]
    have bb9 := wt_tn x1
    have g11 : 0 ≤ (wt_ga σ 111 (Int32.toNatClampNeg x1)).toInt ∧ (wt_ga σ 111 (Int32.toNatClampNeg x1)).toInt ≤ 13 := wt_Ra1 r0 111 (by decide) (by decide) (Int32.toNatClampNeg x1)
    have bb12 := wt_bd z4.2.1
    refine wt_T_gd (wt_ix (by first | with_reducible assumption | omega) (by first | with_reducible assumption | omega)) ?_
    refine wt_T_if (fun h13 => ?_) (fun h13 => ?_)
    · skip
      have c14 := wt_cle h13
      refine wt_T_some ?_
      exact rfl
    · skip
      have c15 := wt_ncle h13
      refine wt_T_bi (wq_md_cell n hn x1 z4.2.1 σ r0 (by first | with_reducible assumption | omega) (by first | with_reducible assumption | omega) (by first | with_reducible assumption | omega) (by first | with_reducible assumption | omega)) (fun r16 h17 => ?_)
      obtain ⟨e18, pp19⟩ := h17
      have bb20 := wt_bd r16.1
      rw [e18]
      refine wt_T_gd (wt_ix (by first | with_reducible assumption | omega) (by first | with_reducible assumption | omega)) ?_
      have bb21 := wt_tn r16.1
      have bb22 := wt_bd (wt_ga σ 124 (Int32.toNatClampNeg r16.1))
      refine wt_T_if (fun h23 => ?_) (fun h23 => ?_)
      · skip
        have c24 := wt_ceq h23
        rw [wt_lm1] at c24
        refine wt_T_bi (wq_md_cell n hn x1 z4.2.1 σ r0 (by first | with_reducible assumption | omega) (by first | with_reducible assumption | omega) (by first | with_reducible assumption | omega) (by first | with_reducible assumption | omega)) (fun r25 h26 => ?_)
        obtain ⟨e27, pp28⟩ := h26
        have bb29 := wt_bd r25.1
        rw [e27]
        refine wt_T_gd (wt_ix (by first | with_reducible assumption | omega) (by first | with_reducible assumption | omega)) ?_
        have bb30 := wt_tn r25.1
        have g32 : 0 ≤ (wt_ga σ 121 (Int32.toNatClampNeg r25.1)).toInt ∧ (wt_ga σ 121 (Int32.toNatClampNeg r25.1)).toInt ≤ 400 := wt_Ra3 r0 121 (by decide) (by decide) (Int32.toNatClampNeg r25.1)
        refine wt_T_if (fun h33 => ?_) (fun h33 => ?_)
        · skip
          have c34 := wt_clt h33
          unfold wp_md_goodFor_B51
          unfold wp_md_goodFor_B52
          have bb35 := wt_bd z4.1
          obtain ⟨j36, j36a, j36b⟩ := wt_addI z4.1 (0 : Int32)
          refine hKK3 _ ⟨rfl, (wt_nn (B := wt_ga z4.2.2 111 (Int32.toNatClampNeg x1)) (by first | with_reducible assumption | omega) (by first | (rw [l6]; omega) | (rw [l6]; done) | omega))⟩ ?_
          show ((wt_ga σ 111 (Int32.toNatClampNeg x1)).toInt - (z4.2.1 + (1 : Int32)).toInt + 0).toNat < ((wt_ga z4.2.2 111 (Int32.toNatClampNeg x1)).toInt - z4.2.1.toInt + 0).toNat
          exact wt_mu (by first | (rw [l6]; omega) | (rw [l6]; done) | omega) (by first | (rw [l6]; omega) | (rw [l6]; done) | omega)
        · skip
          have c37 := wt_ncl h33
          unfold wp_md_goodFor_B52
          have bb38 := wt_bd z4.1
          have k39 : (1 : Int32).toInt = 1 := by decide
          obtain ⟨j40, j40a, j40b⟩ := wt_addI z4.1 (1 : Int32)
          refine hKK3 _ ⟨rfl, (wt_nn (B := wt_ga z4.2.2 111 (Int32.toNatClampNeg x1)) (by first | with_reducible assumption | omega) (by first | (rw [l6]; omega) | (rw [l6]; done) | omega))⟩ ?_
          show ((wt_ga σ 111 (Int32.toNatClampNeg x1)).toInt - (z4.2.1 + (1 : Int32)).toInt + 0).toNat < ((wt_ga z4.2.2 111 (Int32.toNatClampNeg x1)).toInt - z4.2.1.toInt + 0).toNat
          exact wt_mu (by first | (rw [l6]; omega) | (rw [l6]; done) | omega) (by first | (rw [l6]; omega) | (rw [l6]; done) | omega)
      · skip
        have c41 := wt_nceq h23
        rw [wt_lm1] at c41
        unfold wp_md_goodFor_B51
        unfold wp_md_goodFor_B52
        have bb42 := wt_bd z4.1
        obtain ⟨j43, j43a, j43b⟩ := wt_addI z4.1 (0 : Int32)
        refine hKK3 _ ⟨rfl, (wt_nn (B := wt_ga z4.2.2 111 (Int32.toNatClampNeg x1)) (by first | with_reducible assumption | omega) (by first | (rw [l6]; omega) | (rw [l6]; done) | omega))⟩ ?_
        show ((wt_ga σ 111 (Int32.toNatClampNeg x1)).toInt - (z4.2.1 + (1 : Int32)).toInt + 0).toNat < ((wt_ga z4.2.2 111 (Int32.toNatClampNeg x1)).toInt - z4.2.1.toInt + 0).toNat
        exact wt_mu (by first | (rw [l6]; omega) | (rw [l6]; done) | omega) (by first | (rw [l6]; omega) | (rw [l6]; done) | omega)
  · skip
    have bb44 := wt_tn x1
    have g46 : 0 ≤ (wt_ga σ 111 (Int32.toNatClampNeg x1)).toInt ∧ (wt_ga σ 111 (Int32.toNatClampNeg x1)).toInt ≤ 13 := wt_Ra1 r0 111 (by decide) (by decide) (Int32.toNatClampNeg x1)
    exact ⟨rfl, (show 0 ≤ ((0 : Int32)).toInt by omega)⟩
  · skip
    have bb47 := wt_tn x1
    have g49 : 0 ≤ (wt_ga σ 111 (Int32.toNatClampNeg x1)).toInt ∧ (wt_ga σ 111 (Int32.toNatClampNeg x1)).toInt ≤ 13 := wt_Ra1 r0 111 (by decide) (by decide) (Int32.toNatClampNeg x1)
    show ((wt_ga σ 111 (Int32.toNatClampNeg x1)).toInt - (0 : Int32).toInt + 0).toNat < n
    omega
set_option maxRecDepth 100000 in
set_option maxHeartbeats 4000000 in
theorem wq_md_lacking (n : Nat) (hn : 4294967297 < n) (x1 : Int32) (σ : wt_St) (r0 : wt_RI σ) : wt_T (wp_md_lacking n x1 σ) (fun q => q.2 = σ ∧ (q.1.toInt = -1 ∨ (0 ≤ q.1.toInt ∧ q.1.toInt ≤ 25))) := by
  have bb1 := wt_bd x1
  unfold wp_md_lacking
  have k7 : (0 : Int32).toInt = 0 := by decide
  refine wt_T_it (fun s : Int32 × wt_St => s.2 = σ ∧ 0 ≤ (s.1).toInt) (fun s : Int32 × wt_St => ((26 : Int32).toInt - s.1.toInt + 0).toNat) (fun KK2 z3 I4 hKK2 => ?_) _ _ ?_ ?_
  · skip
    obtain ⟨l5, l6⟩ := I4
    unfold wp_md_lacking_B2
    rw [l5]
    have k8 : (26 : Int32).toInt = 26 := by decide
    have bb9 := wt_bd z3.1
    refine wt_T_if (fun h10 => ?_) (fun h10 => ?_)
    · skip
      have c11 := wt_cle h10
      refine wt_T_some ?_
      have k12 := wt_lm1
      exact ⟨rfl, (show ((-1 : Int32).toInt = -1 ∨ (0 ≤ (-1 : Int32).toInt ∧ (-1 : Int32).toInt ≤ 25)) from by omega)⟩
    · skip
      have c13 := wt_ncle h10
      refine wt_T_gd (wt_ix (by first | with_reducible assumption | omega) (by first | with_reducible assumption | omega)) ?_
      refine wt_T_bi (wq_md_goodFor n hn z3.1 x1 σ r0 (by first | with_reducible assumption | omega) (by first | with_reducible assumption | omega)) (fun r14 h15 => ?_)
      have e16 := h15
      have bb17 := wt_bd r14.1
      rw [e16]
      have bb18 := wt_tn z3.1
      have bb19 := wt_bd (wt_ga σ 287 (Int32.toNatClampNeg z3.1))
      refine wt_T_if (fun h20 => ?_) (fun h20 => ?_)
      · skip
        have c21 := wt_cle h20
        refine hKK2 _ ⟨rfl, (wt_nn (B := (26 : Int32)) (by first | with_reducible assumption | omega) (by first | (rw [l5]; omega) | (rw [l5]; done) | omega))⟩ ?_
        show ((26 : Int32).toInt - (z3.1 + (1 : Int32)).toInt + 0).toNat < ((26 : Int32).toInt - z3.1.toInt + 0).toNat
        exact wt_mu (by first | (rw [l5]; omega) | (rw [l5]; done) | omega) (by first | (rw [l5]; omega) | (rw [l5]; done) | omega)
      · skip
        have c22 := wt_ncle h20
        refine wt_T_some ?_
        exact ⟨rfl, (show (z3.1.toInt = -1 ∨ (0 ≤ z3.1.toInt ∧ z3.1.toInt ≤ 25)) from by omega)⟩
  · skip
    have k23 : (26 : Int32).toInt = 26 := by decide
    exact ⟨rfl, (show 0 ≤ ((0 : Int32)).toInt by omega)⟩
  · skip
    have k24 : (26 : Int32).toInt = 26 := by decide
    show ((26 : Int32).toInt - (0 : Int32).toInt + 0).toNat < n
    omega
set_option maxRecDepth 100000 in
set_option maxHeartbeats 4000000 in
theorem wq_md_often (n : Nat) (hn : 4294967297 < n) (σ : wt_St) (r0 : wt_RI σ) : wt_T (wp_md_often n σ) (fun q => q.2 = σ ∧ (0 ≤ q.1.toInt ∧ q.1.toInt ≤ 400)) := by
  unfold wp_md_often
  have k9 : (0 : Int32).toInt = 0 := by decide
  have k10 : (400 : Int32).toInt = 400 := by decide
  refine wt_T_it (fun s : Int32 × Int32 × wt_St => s.2.2 = σ ∧ 0 ≤ s.1.toInt ∧ s.1.toInt ≤ 400 ∧ s.2.1.toInt ≤ 400 ∧ -1 ≤ s.2.1.toInt) (fun s : Int32 × Int32 × wt_St => (s.2.1.toInt - s.1.toInt).toNat) (fun KK1 z2 I3 hKK1 => ?_) _ _ ?_ ?_
  · skip
    obtain ⟨l4, l5, l6, l7, l8⟩ := I3
    unfold wp_md_often_B6
    rw [l4]
    have bb11 := wt_bd z2.2.1
    have bb12 := wt_bd z2.1
    refine wt_T_if (fun h13 => ?_) (fun h13 => ?_)
    · skip
      have c14 := wt_cle h13
      refine wt_T_some ?_
      exact ⟨rfl, (show (0 ≤ z2.1.toInt ∧ z2.1.toInt ≤ 400) from by omega)⟩
    · skip
      have c15 := wt_ncle h13
      obtain ⟨j16, j16a, j16b⟩ := wt_addI z2.1 z2.2.1
      have k17 : (1 : Int32).toInt = 1 := by decide
      obtain ⟨j18, j18a, j18b⟩ := wt_addI (z2.1 + z2.2.1) (1 : Int32)
      have k19 : (2 : Int32).toInt = 2 := by decide
      have bb20 := wt_bd (((z2.1 + z2.2.1) + (1 : Int32)) / (2 : Int32))
      have dv21 : (((z2.1 + z2.2.1) + (1 : Int32)) / (2 : Int32)).toInt = ((z2.1 + z2.2.1) + (1 : Int32)).toInt / 2 := (wt_divI (x := (z2.1 + z2.2.1) + (1 : Int32)) (y := (2 : Int32)) (by first | with_reducible assumption | omega) (by first | with_reducible assumption | omega)).trans (by rw [show (2 : Int32).toInt = 2 from by decide])
      refine wt_T_bi (wq_md_lacking n hn (((z2.1 + z2.2.1) + (1 : Int32)) / (2 : Int32)) σ r0) (fun r22 h23 => ?_)
      obtain ⟨e24, pp25⟩ := h23
      have bb26 := wt_bd r22.1
      rw [e24]
      refine wt_T_if (fun h27 => ?_) (fun h27 => ?_)
      · skip
        have c28 := wt_ceq h27
        rw [wt_lm1] at c28
        unfold wp_md_often_B37
        refine hKK1 _ ⟨rfl, (show 0 ≤ (((z2.1 + z2.2.1) + (1 : Int32)) / (2 : Int32)).toInt by omega), (show (((z2.1 + z2.2.1) + (1 : Int32)) / (2 : Int32)).toInt ≤ 400 by omega), (show z2.2.1.toInt ≤ 400 by omega), (show -1 ≤ z2.2.1.toInt by omega)⟩ ?_
        show (z2.2.1.toInt - (((z2.1 + z2.2.1) + (1 : Int32)) / (2 : Int32)).toInt).toNat < (z2.2.1.toInt - z2.1.toInt).toNat
        first | (rw [l4]; omega) | (rw [l4]; done) | omega
      · skip
        have c29 := wt_nceq h27
        rw [wt_lm1] at c29
        unfold wp_md_often_B37
        obtain ⟨j30, j30a, j30b⟩ := wt_subI (((z2.1 + z2.2.1) + (1 : Int32)) / (2 : Int32)) (1 : Int32)
        refine hKK1 _ ⟨rfl, (show 0 ≤ z2.1.toInt by omega), (show z2.1.toInt ≤ 400 by omega), (show ((((z2.1 + z2.2.1) + (1 : Int32)) / (2 : Int32)) - (1 : Int32)).toInt ≤ 400 by omega), (show -1 ≤ ((((z2.1 + z2.2.1) + (1 : Int32)) / (2 : Int32)) - (1 : Int32)).toInt by omega)⟩ ?_
        show (((((z2.1 + z2.2.1) + (1 : Int32)) / (2 : Int32)) - (1 : Int32)).toInt - z2.1.toInt).toNat < (z2.2.1.toInt - z2.1.toInt).toNat
        first | (rw [l4]; omega) | (rw [l4]; done) | omega
  · skip
    exact ⟨rfl, (show 0 ≤ (0 : Int32).toInt by omega), (show (0 : Int32).toInt ≤ 400 by omega), (show (400 : Int32).toInt ≤ 400 by omega), (show -1 ≤ (400 : Int32).toInt by omega)⟩
  · skip
    show ((400 : Int32).toInt - (0 : Int32).toInt).toNat < n
    omega
set_option maxRecDepth 100000 in
set_option maxHeartbeats 4000000 in
theorem wq_md_can (n : Nat) (hn : 4294967297 < n) (x1 : Int32) (σ : wt_St) (r0 : wt_RI σ) : wt_T (wp_md_can n x1 σ) (fun q => wt_fr (fun i k => (i = 108 ∧ k = 0)) (fun i => i = 287) σ q.2 ∧ wt_RI q.2) := by
  have bb1 := wt_bd x1
  unfold wp_md_can
  obtain ⟨σ2, eσ2⟩ : ∃ z : wt_St, z = wt_sf σ 108 0 (0 : Int32) := ⟨_, rfl⟩
  rw [← eσ2]
  have fσ2 := wt_fr_sf eσ2
  have vσ2 := wt_ceq (wt_v_sf eσ2)
  have k3 : (0 : Int32).toInt = 0 := by decide
  have rσ2 := wt_RI_fno r0 eσ2 (Or.inr (by decide +kernel))
  refine wt_T_bi (wq_md_isText n hn x1 σ2 rσ2) (fun r4 h5 => ?_)
  obtain ⟨e6, pp7⟩ := h5
  have bb8 := wt_bd r4.1
  rw [e6]
  have g10 : 0 ≤ (wt_gf σ2 108 39).toInt ∧ (wt_gf σ2 108 39).toInt ≤ 8 := wt_Rf7 rσ2
  have tt11 : (wt_gf σ2 108 39).toInt = (wt_gf σ 108 39).toInt := congrArg Int32.toInt (fσ2.1 108 39 (by (try dsimp only); omega))
  refine wt_T_if (fun h14 => ?_) (fun h14 => ?_)
  · skip
    have c15 := wt_ceq h14
    unfold wp_md_can_B19
    have k16 : (1 : Int32).toInt = 1 := by decide
    refine wt_T_bi (wq_md_bad n hn (1 : Int32) (1 : Int32) σ2 rσ2 (by first | with_reducible assumption | omega)) (fun r17 h18 => ?_)
    obtain ⟨f19, ri20, pp21⟩ := h18
    have bb22 := wt_bd r17.1
    have bb23 := wt_bd (wt_gf r17.2 108 0)
    have bb24 := wt_bd (wt_gf σ2 108 0)
    refine wt_T_if (fun h25 => ?_) (fun h25 => ?_)
    · skip
      have c26 := wt_ceq h25
      refine wt_T_bi (wq_md_needsText n hn x1 r17.2 ri20 (by first | with_reducible assumption | omega) (by first | with_reducible assumption | omega)) (fun r27 h28 => ?_)
      obtain ⟨f29, ri30, pp31⟩ := h28
      refine wt_T_bi (wq_md_often n hn r27 ri30) (fun r32 h33 => ?_)
      obtain ⟨e34, pp35⟩ := h33
      have bb36 := wt_bd r32.1
      rw [e34]
      refine wt_T_some ?_
      exact ⟨(wt_fr.tr (wt_fr.tr (wt_fr.tr wt_fr.rf fσ2 (fun i k h => by (try dsimp only at h); exact (by first | exact h | omega)) (fun i h => h.elim)) f19 (fun i k h => by (try dsimp only at h); exact (by first | exact h | omega)) (fun i h => h.elim)) f29 (fun i k h => h.elim) (fun i h => by (try dsimp only at h); exact (by first | exact h | omega))), ri30⟩
    · skip
      have c37 := wt_nceq h25
      refine wt_T_some ?_
      exact ⟨(wt_fr.tr (wt_fr.tr wt_fr.rf fσ2 (fun i k h => by (try dsimp only at h); exact (by first | exact h | omega)) (fun i h => h.elim)) f19 (fun i k h => by (try dsimp only at h); exact (by first | exact h | omega)) (fun i h => h.elim)), ri20⟩
  · skip
    have c38 := wt_nceq h14
    unfold wp_md_can_B19
    have k39 : (1 : Int32).toInt = 1 := by decide
    refine wt_T_bi (wq_md_bad n hn (0 : Int32) (1 : Int32) σ2 rσ2 (by first | with_reducible assumption | omega)) (fun r40 h41 => ?_)
    obtain ⟨f42, ri43, pp44⟩ := h41
    have bb45 := wt_bd r40.1
    have bb46 := wt_bd (wt_gf r40.2 108 0)
    have bb47 := wt_bd (wt_gf σ2 108 0)
    refine wt_T_if (fun h48 => ?_) (fun h48 => ?_)
    · skip
      have c49 := wt_ceq h48
      refine wt_T_bi (wq_md_needsText n hn x1 r40.2 ri43 (by first | with_reducible assumption | omega) (by first | with_reducible assumption | omega)) (fun r50 h51 => ?_)
      obtain ⟨f52, ri53, pp54⟩ := h51
      refine wt_T_bi (wq_md_often n hn r50 ri53) (fun r55 h56 => ?_)
      obtain ⟨e57, pp58⟩ := h56
      have bb59 := wt_bd r55.1
      rw [e57]
      refine wt_T_some ?_
      exact ⟨(wt_fr.tr (wt_fr.tr (wt_fr.tr wt_fr.rf fσ2 (fun i k h => by (try dsimp only at h); exact (by first | exact h | omega)) (fun i h => h.elim)) f42 (fun i k h => by (try dsimp only at h); exact (by first | exact h | omega)) (fun i h => h.elim)) f52 (fun i k h => h.elim) (fun i h => by (try dsimp only at h); exact (by first | exact h | omega))), ri53⟩
    · skip
      have c60 := wt_nceq h48
      refine wt_T_some ?_
      exact ⟨(wt_fr.tr (wt_fr.tr wt_fr.rf fσ2 (fun i k h => by (try dsimp only at h); exact (by first | exact h | omega)) (fun i h => h.elim)) f42 (fun i k h => by (try dsimp only at h); exact (by first | exact h | omega)) (fun i h => h.elim)), ri43⟩
set_option maxRecDepth 100000 in
set_option maxHeartbeats 4000000 in
theorem wq_md_canWord (n : Nat) (hn : 4294967297 < n) (x1 : Int32) (σ : wt_St) (r0 : wt_RI σ) (p0 : 0 ≤ x1.toInt) (p1 : x1.toInt ≤ 59) : wt_T (wp_md_canWord n x1 σ) (fun q => wt_fr (fun i k => False) (fun i => i = 287) σ q.2 ∧ wt_RI q.2 ∧ (0 ≤ q.1.toInt ∧ q.1.toInt ≤ 400)) := by
  have bb1 := wt_bd x1
  unfold wp_md_canWord
  refine wt_T_bi (wq_md_needsNone n hn σ r0) (fun r2 h3 => ?_)
  obtain ⟨f4, ri5⟩ := h3
  refine wt_T_bi (wq_md_needsWord n hn x1 r2 ri5 (by first | with_reducible assumption | omega) (by first | with_reducible assumption | omega)) (fun r6 h7 => ?_)
  obtain ⟨f8, ri9⟩ := h7
  refine wt_T_bi (wq_md_often n hn r6 ri9) (fun r10 h11 => ?_)
  obtain ⟨e12, pp13⟩ := h11
  have bb14 := wt_bd r10.1
  rw [e12]
  refine wt_T_some ?_
  exact ⟨(wt_fr.tr (wt_fr.tr wt_fr.rf f4 (fun i k h => h.elim) (fun i h => by (try dsimp only at h); exact (by first | exact h | omega))) f8 (fun i k h => h.elim) (fun i h => by (try dsimp only at h); exact (by first | exact h | omega))), ri9, (show (0 ≤ r10.1.toInt ∧ r10.1.toInt ≤ 400) from by omega)⟩
set_option maxRecDepth 100000 in
set_option maxHeartbeats 4000000 in
theorem wq_md_isCopies (n : Nat) (hn : 4294967297 < n) (x0 : Int32) (σ : wt_St) (r0 : wt_RI σ) : wt_T (wp_md_isCopies n x0 σ) (fun q => q.2 = σ ∧ ((q.1.toInt = 0 ∧ (x0.toInt < 1 ∨ 400 < x0.toInt)) ∨ (q.1.toInt = 1 ∧ 1 ≤ x0.toInt ∧ x0.toInt ≤ 400))) := by
  have bb1 := wt_bd x0
  unfold wp_md_isCopies
  have k2 : (1 : Int32).toInt = 1 := by decide
  have k3 : (400 : Int32).toInt = 400 := by decide
  refine wt_T_bi (wq_md_in n hn x0 (1 : Int32) (400 : Int32) σ r0) (fun r4 h5 => ?_)
  obtain ⟨e6, pp7⟩ := h5
  have bb8 := wt_bd r4.1
  rw [e6]
  refine wt_T_some ?_
  exact ⟨rfl, (show ((r4.1.toInt = 0 ∧ (x0.toInt < 1 ∨ 400 < x0.toInt)) ∨ (r4.1.toInt = 1 ∧ 1 ≤ x0.toInt ∧ x0.toInt ≤ 400)) from by omega)⟩
set_option maxRecDepth 100000 in
set_option maxHeartbeats 4000000 in
theorem wq_md_withOne (n : Nat) (hn : 4294967297 < n) (x1 : Int32) (x2 : Int32) (σ : wt_St) (r0 : wt_RI σ) (m0 : wt_M12 σ) (p0 : 0 ≤ x1.toInt) (p1 : x1.toInt ≤ 25) (p2 : 0 ≤ x2.toInt) (p3 : x2.toInt ≤ 400) : wt_T (wp_md_withOne n x1 x2 σ) (fun q => wt_fr (fun i k => False) (fun i => i = 121 ∨ i = 124 ∨ i = 111) σ q.2 ∧ wt_RI q.2 ∧ wt_M12 q.2) := by
  have bb1 := wt_bd x1
  have bb2 := wt_bd x2
  unfold wp_md_withOne
  have k0 : (0 : Int32).toInt = 0 := by decide
  refine wt_T_gd (wt_ix (by first | with_reducible assumption | omega) (by first | with_reducible assumption | omega)) ?_
  have bb3 := wt_tn x1
  have bb4 := wt_bd (wt_ga σ 111 (Int32.toNatClampNeg x1))
  have g5 := m0 (Int32.toNatClampNeg x1)
  have g6 : 0 ≤ (wt_ga σ 111 (Int32.toNatClampNeg x1)).toInt ∧ (wt_ga σ 111 (Int32.toNatClampNeg x1)).toInt ≤ 13 := wt_Ra1 r0 111 (by decide) (by decide) (Int32.toNatClampNeg x1)
  refine wt_T_bi (wq_md_cell n hn x1 (wt_ga σ 111 (Int32.toNatClampNeg x1)) σ r0 (by first | with_reducible assumption | omega) (by first | with_reducible assumption | omega) (by first | with_reducible assumption | omega) (by first | with_reducible assumption | omega)) (fun r7 h8 => ?_)
  obtain ⟨e9, pp10⟩ := h8
  have bb11 := wt_bd r7.1
  rw [e9]
  refine wt_T_gd (wt_ix (by first | with_reducible assumption | omega) (by first | with_reducible assumption | omega)) ?_
  refine wt_T_gd (wt_ix (by first | with_reducible assumption | omega) (by first | with_reducible assumption | omega)) ?_
  refine wt_T_gd (wt_ix (by first | with_reducible assumption | omega) (by first | with_reducible assumption | omega)) ?_
  refine wt_T_gd (wt_ix (by first | with_reducible assumption | omega) (by first | with_reducible assumption | omega)) ?_
  obtain ⟨σ12, eσ12⟩ : ∃ z : wt_St, z = wt_sa σ 121 (Int32.toNatClampNeg r7.1) x2 := ⟨_, rfl⟩
  rw [← eσ12]
  have fσ12 := wt_fr_sa eσ12
  have vσ12 := wt_ceq (wt_v_sa eσ12)
  have bb13 := wt_tn r7.1
  have rσ12 := wt_Rn3 r0 eσ12 (by decide) (by decide) (show 0 ≤ (x2).toInt by omega) (show (x2).toInt ≤ 400 by omega)
  obtain ⟨σ14, eσ14⟩ : ∃ z : wt_St, z = wt_sa σ12 124 (Int32.toNatClampNeg r7.1) (-1 : Int32) := ⟨_, rfl⟩
  rw [← eσ14]
  have fσ14 := wt_fr_sa eσ14
  have vσ14 := wt_ceq (wt_v_sa eσ14)
  have rσ14 := wt_RI_no rσ12 eσ14 124 125 (by decide +kernel) (by decide) (by decide)
  obtain ⟨σ15, eσ15⟩ : ∃ z : wt_St, z = wt_sa σ14 111 (Int32.toNatClampNeg x1) ((wt_ga σ14 111 (Int32.toNatClampNeg x1)) + (1 : Int32)) := ⟨_, rfl⟩
  rw [← eσ15]
  have fσ15 := wt_fr_sa eσ15
  have vσ15 := wt_ceq (wt_v_sa eσ15)
  have g17 : 0 ≤ (wt_ga σ14 111 (Int32.toNatClampNeg x1)).toInt ∧ (wt_ga σ14 111 (Int32.toNatClampNeg x1)).toInt ≤ 13 := wt_Ra1 rσ14 111 (by decide) (by decide) (Int32.toNatClampNeg x1)
  have tt18 : (wt_ga σ14 111 (Int32.toNatClampNeg x1)).toInt = (wt_ga σ12 111 (Int32.toNatClampNeg x1)).toInt := congrArg Int32.toInt (fσ14.2 111 (by (try dsimp only); omega) (Int32.toNatClampNeg x1))
  have tt21 : (wt_ga σ12 111 (Int32.toNatClampNeg x1)).toInt = (wt_ga σ 111 (Int32.toNatClampNeg x1)).toInt := congrArg Int32.toInt (fσ12.2 111 (by (try dsimp only); omega) (Int32.toNatClampNeg x1))
  have k22 : (1 : Int32).toInt = 1 := by decide
  have j23b := wt_bd ((wt_ga σ14 111 (Int32.toNatClampNeg x1)) + (1 : Int32))
  have j23a : ((wt_ga σ14 111 (Int32.toNatClampNeg x1)) + (1 : Int32)).toInt = (wt_ga σ14 111 (Int32.toNatClampNeg x1)).toInt + ((1 : Int32)).toInt := wt_addE (by first | with_reducible assumption | omega) (by first | with_reducible assumption | omega)
  have rσ15 := wt_Rn1 rσ14 eσ15 (by decide) (by decide) (show 0 ≤ ((wt_ga σ14 111 (Int32.toNatClampNeg x1)) + (1 : Int32)).toInt by omega) (show ((wt_ga σ14 111 (Int32.toNatClampNeg x1)) + (1 : Int32)).toInt ≤ 13 by omega)
  refine wt_T_bi (wq_md_often n hn σ15 rσ15) (fun r24 h25 => ?_)
  obtain ⟨e26, pp27⟩ := h25
  have bb28 := wt_bd r24.1
  rw [e26]
  refine wt_T_gd (wt_ix (by first | with_reducible assumption | omega) (by first | with_reducible assumption | omega)) ?_
  refine wt_T_gd (wt_ix (by first | with_reducible assumption | omega) (by first | with_reducible assumption | omega)) ?_
  obtain ⟨σ29, eσ29⟩ : ∃ z : wt_St, z = wt_sa σ15 111 (Int32.toNatClampNeg x1) ((wt_ga σ15 111 (Int32.toNatClampNeg x1)) - (1 : Int32)) := ⟨_, rfl⟩
  rw [← eσ29]
  have fσ29 := wt_fr_sa eσ29
  have vσ29 := wt_ceq (wt_v_sa eσ29)
  have g31 : 0 ≤ (wt_ga σ15 111 (Int32.toNatClampNeg x1)).toInt ∧ (wt_ga σ15 111 (Int32.toNatClampNeg x1)).toInt ≤ 13 := wt_Ra1 rσ15 111 (by decide) (by decide) (Int32.toNatClampNeg x1)
  have j32b := wt_bd ((wt_ga σ15 111 (Int32.toNatClampNeg x1)) - (1 : Int32))
  have j32a : ((wt_ga σ15 111 (Int32.toNatClampNeg x1)) - (1 : Int32)).toInt = (wt_ga σ15 111 (Int32.toNatClampNeg x1)).toInt - ((1 : Int32)).toInt := wt_subE (by first | with_reducible assumption | omega) (by first | with_reducible assumption | omega)
  have rσ29 := wt_Rn1 rσ15 eσ29 (by decide) (by decide) (show 0 ≤ ((wt_ga σ15 111 (Int32.toNatClampNeg x1)) - (1 : Int32)).toInt by omega) (show ((wt_ga σ15 111 (Int32.toNatClampNeg x1)) - (1 : Int32)).toInt ≤ 13 by omega)
  refine wt_T_some ?_
  have mD : wt_M12 σ29 := by
    intro j
    by_cases hj : j = (Int32.toNatClampNeg x1)
    · subst hj
      have hm := m0 (Int32.toNatClampNeg x1)
      omega
    · have h1 := congrArg Int32.toInt (wt_w_sa eσ29 j hj)
      have h3 := congrArg Int32.toInt (wt_w_sa eσ15 j hj)
      have h4 := congrArg Int32.toInt (fσ14.2 111 (by (try dsimp only); omega) j)
      have h5 := congrArg Int32.toInt (fσ12.2 111 (by (try dsimp only); omega) j)
      have hm := m0 j
      omega
  exact ⟨(wt_fr.tr (wt_fr.tr (wt_fr.tr (wt_fr.tr wt_fr.rf fσ12 (fun i k h => h.elim) (fun i h => by (try dsimp only at h); exact Or.inl (by first | exact h | omega))) fσ14 (fun i k h => h.elim) (fun i h => by (try dsimp only at h); exact Or.inr (Or.inl (by first | exact h | omega)))) fσ15 (fun i k h => h.elim) (fun i h => by (try dsimp only at h); exact Or.inr (Or.inr (by first | exact h | omega)))) fσ29 (fun i k h => h.elim) (fun i h => by (try dsimp only at h); exact Or.inr (Or.inr (by first | exact h | omega)))), rσ29, mD⟩
set_option maxRecDepth 100000 in
set_option maxHeartbeats 4000000 in
theorem wq_md_cast_B39 (n : Nat) (hn : 4294967297 < n) (x1 : Int32) (x2 : Int32) (y1 : Int32) (σ : wt_St) (r0 : wt_RI σ) (m0 : wt_M12 σ) (p0 : y1.toInt ≠ 0 ∨ (0 ≤ x1.toInt ∧ x1.toInt < (wt_gf σ 108 39).toInt ∧ 1 ≤ x2.toInt ∧ x2.toInt ≤ 400)) : wt_T (wp_md_cast_B39 n x1 x2 y1 σ) (fun q => wt_fr (fun i k => (i = 108 ∧ k = 0)) (fun i => i = 287 ∨ i = 121 ∨ i = 124 ∨ i = 111) σ q.2 ∧ wt_RI q.2 ∧ wt_M12 q.2) := by
  have bb1 := wt_bd x1
  have bb2 := wt_bd x2
  have bb3 := wt_bd y1
  have g5 : 0 ≤ (wt_gf σ 108 39).toInt ∧ (wt_gf σ 108 39).toInt ≤ 8 := wt_Rf7 r0
  unfold wp_md_cast_B39
  have k6 : (2 : Int32).toInt = 2 := by decide
  refine wt_T_bi (wq_md_bad n hn y1 (2 : Int32) σ r0 (by first | with_reducible assumption | omega)) (fun r7 h8 => ?_)
  obtain ⟨f9, ri10, pp11⟩ := h8
  have mi12 := wt_M_fr m0 f9 (by (try dsimp only); first | omega | exact fun h => h)
  have bb13 := wt_bd r7.1
  have bb14 := wt_bd (wt_gf r7.2 108 0)
  have bb15 := wt_bd (wt_gf σ 108 0)
  have k16 : (0 : Int32).toInt = 0 := by decide
  refine wt_T_if (fun h17 => ?_) (fun h17 => ?_)
  · skip
    have c18 := wt_ceq h17
    refine wt_T_bi (wq_md_needsText n hn x1 r7.2 ri10 (by first | with_reducible assumption | omega) (by first | with_reducible assumption | omega)) (fun r19 h20 => ?_)
    obtain ⟨f21, ri22, pp23⟩ := h20
    have mi24 := wt_M_fr mi12 f21 (by (try dsimp only); first | omega | exact fun h => h)
    refine wt_T_bi (wq_md_often n hn r19 ri22) (fun r25 h26 => ?_)
    obtain ⟨e27, pp28⟩ := h26
    have bb29 := wt_bd r25.1
    rw [e27]
    refine wt_T_it (fun s : Int32 × Int32 × Int32 × wt_St => wt_fr (fun i k => False) (fun i => i = 121 ∨ i = 124 ∨ i = 111) r19 s.2.2.2 ∧ 0 ≤ (s.2.2.1).toInt ∧ wt_RI s.2.2.2 ∧ wt_M12 s.2.2.2) (fun s : Int32 × Int32 × Int32 × wt_St => ((26 : Int32).toInt - s.2.2.1.toInt + 0).toNat) (fun KK30 z31 I32 hKK30 => ?_) _ _ ?_ ?_
    · skip
      obtain ⟨l33, l34, l35, l36⟩ := I32
      unfold wp_md_cast_B64
      have k37 : (26 : Int32).toInt = 26 := by decide
      have bb38 := wt_bd z31.2.2.1
      refine wt_T_if (fun h39 => ?_) (fun h39 => ?_)
      · skip
        have c40 := wt_cle h39
        refine wt_T_some ?_
        exact ⟨(wt_fr.tr (wt_fr.tr (wt_fr.tr wt_fr.rf f9 (fun i k h => by (try dsimp only at h); exact (by first | exact h | omega)) (fun i h => h.elim)) f21 (fun i k h => h.elim) (fun i h => by (try dsimp only at h); exact Or.inl (by first | exact h | omega))) l33 (fun i k h => h.elim) (fun i h => by (try dsimp only at h); rcases h with h | h | h; exact Or.inr (Or.inl (by first | exact h | omega)); exact Or.inr (Or.inr (Or.inl (by first | exact h | omega))); exact Or.inr (Or.inr (Or.inr (by first | exact h | omega))))), l35, l36⟩
      · skip
        have c41 := wt_ncle h39
        refine wt_T_bi (wq_md_withOne n hn z31.2.2.1 x2 z31.2.2.2 l35 l36 (by first | with_reducible assumption | omega) (by first | with_reducible assumption | omega) (by first | with_reducible assumption | omega) (by first | with_reducible assumption | omega)) (fun r42 h43 => ?_)
        obtain ⟨f44, ri45, mi46⟩ := h43
        have bb47 := wt_bd r42.1
        have bb48 := wt_bd z31.1
        refine wt_T_if (fun h49 => ?_) (fun h49 => ?_)
        · skip
          have c50 := wt_clt h49
          unfold wp_md_cast_B96
          refine hKK30 _ ⟨(wt_fr.tr (wt_fr.tr wt_fr.rf l33 (fun i k h => h.elim) (fun i h => by (try dsimp only at h); rcases h with h | h | h; exact Or.inl (by first | exact h | omega); exact Or.inr (Or.inl (by first | exact h | omega)); exact Or.inr (Or.inr (by first | exact h | omega)))) f44 (fun i k h => h.elim) (fun i h => by (try dsimp only at h); rcases h with h | h | h; exact Or.inl (by first | exact h | omega); exact Or.inr (Or.inl (by first | exact h | omega)); exact Or.inr (Or.inr (by first | exact h | omega)))), (wt_nn (B := (26 : Int32)) (by first | with_reducible assumption | omega) (by first | with_reducible assumption | omega)), ri45, mi46⟩ ?_
          show ((26 : Int32).toInt - (z31.2.2.1 + (1 : Int32)).toInt + 0).toNat < ((26 : Int32).toInt - z31.2.2.1.toInt + 0).toNat
          exact wt_mu (by first | with_reducible assumption | omega) (by first | with_reducible assumption | omega)
        · skip
          have c51 := wt_ncl h49
          unfold wp_md_cast_B96
          have bb52 := wt_bd z31.2.1
          refine hKK30 _ ⟨(wt_fr.tr (wt_fr.tr wt_fr.rf l33 (fun i k h => h.elim) (fun i h => by (try dsimp only at h); rcases h with h | h | h; exact Or.inl (by first | exact h | omega); exact Or.inr (Or.inl (by first | exact h | omega)); exact Or.inr (Or.inr (by first | exact h | omega)))) f44 (fun i k h => h.elim) (fun i h => by (try dsimp only at h); rcases h with h | h | h; exact Or.inl (by first | exact h | omega); exact Or.inr (Or.inl (by first | exact h | omega)); exact Or.inr (Or.inr (by first | exact h | omega)))), (wt_nn (B := (26 : Int32)) (by first | with_reducible assumption | omega) (by first | with_reducible assumption | omega)), ri45, mi46⟩ ?_
          show ((26 : Int32).toInt - (z31.2.2.1 + (1 : Int32)).toInt + 0).toNat < ((26 : Int32).toInt - z31.2.2.1.toInt + 0).toNat
          exact wt_mu (by first | with_reducible assumption | omega) (by first | with_reducible assumption | omega)
    · skip
      have k53 : (26 : Int32).toInt = 26 := by decide
      exact ⟨wt_fr.rf, (show 0 ≤ ((0 : Int32)).toInt by omega), ri22, mi24⟩
    · skip
      have k54 : (26 : Int32).toInt = 26 := by decide
      show ((26 : Int32).toInt - (0 : Int32).toInt + 0).toNat < n
      omega
  · skip
    have c55 := wt_nceq h17
    refine wt_T_some ?_
    exact ⟨(wt_fr.tr wt_fr.rf f9 (fun i k h => by (try dsimp only at h); exact (by first | exact h | omega)) (fun i h => h.elim)), ri10, mi12⟩
set_option maxRecDepth 100000 in
set_option maxHeartbeats 4000000 in
theorem wq_md_cast (n : Nat) (hn : 4294967297 < n) (x1 : Int32) (x2 : Int32) (σ : wt_St) (r0 : wt_RI σ) (m0 : wt_M12 σ) : wt_T (wp_md_cast n x1 x2 σ) (fun q => wt_fr (fun i k => (i = 108 ∧ k = 0)) (fun i => i = 287 ∨ i = 121 ∨ i = 124 ∨ i = 111) σ q.2 ∧ wt_RI q.2 ∧ wt_M12 q.2) := by
  have bb1 := wt_bd x1
  have bb2 := wt_bd x2
  unfold wp_md_cast
  obtain ⟨σ3, eσ3⟩ : ∃ z : wt_St, z = wt_sf σ 108 0 (0 : Int32) := ⟨_, rfl⟩
  rw [← eσ3]
  have fσ3 := wt_fr_sf eσ3
  have vσ3 := wt_ceq (wt_v_sf eσ3)
  have k4 : (0 : Int32).toInt = 0 := by decide
  have mσ3 := wt_M_sf m0 eσ3
  have rσ3 := wt_RI_fno r0 eσ3 (Or.inr (by decide +kernel))
  refine wt_T_bi (wq_md_isText n hn x1 σ3 rσ3) (fun r5 h6 => ?_)
  obtain ⟨e7, pp8⟩ := h6
  have bb9 := wt_bd r5.1
  rw [e7]
  have g11 : 0 ≤ (wt_gf σ3 108 39).toInt ∧ (wt_gf σ3 108 39).toInt ≤ 8 := wt_Rf7 rσ3
  have tt12 : (wt_gf σ3 108 39).toInt = (wt_gf σ 108 39).toInt := congrArg Int32.toInt (fσ3.1 108 39 (by (try dsimp only); omega))
  refine wt_T_if (fun h15 => ?_) (fun h15 => ?_)
  · skip
    have c16 := wt_ceq h15
    unfold wp_md_cast_B19
    have k17 : (1 : Int32).toInt = 1 := by decide
    refine wt_T_bi (wq_md_bad n hn (1 : Int32) (1 : Int32) σ3 rσ3 (by first | with_reducible assumption | omega)) (fun r18 h19 => ?_)
    obtain ⟨f20, ri21, pp22⟩ := h19
    have mi23 := wt_M_fr mσ3 f20 (by (try dsimp only); first | omega | exact fun h => h)
    have bb24 := wt_bd r18.1
    have bb25 := wt_bd (wt_gf r18.2 108 0)
    have bb26 := wt_bd (wt_gf σ3 108 0)
    refine wt_T_if (fun h27 => ?_) (fun h27 => ?_)
    · skip
      have c28 := wt_ceq h27
      refine wt_T_bi (wq_md_isCopies n hn x2 r18.2 ri21) (fun r29 h30 => ?_)
      obtain ⟨e31, pp32⟩ := h30
      have bb33 := wt_bd r29.1
      rw [e31]
      refine wt_T_if (fun h34 => ?_) (fun h34 => ?_)
      · skip
        have c35 := wt_ceq h34
        have g37 : 0 ≤ (wt_gf r18.2 108 39).toInt ∧ (wt_gf r18.2 108 39).toInt ≤ 8 := wt_Rf7 ri21
        have tt38 : (wt_gf r18.2 108 39).toInt = (wt_gf σ3 108 39).toInt := congrArg Int32.toInt (f20.1 108 39 (by (try dsimp only); omega))
        refine wt_T.imp (wq_md_cast_B39 n hn x1 x2 (1 : Int32) r18.2 ri21 mi23 (by first | with_reducible assumption | omega)) (fun r39 h40 => ?_)
        have bb41 := wt_bd r39.1
        obtain ⟨f42, ri43, mi44⟩ := h40
        exact ⟨(wt_fr.tr (wt_fr.tr (wt_fr.tr wt_fr.rf fσ3 (fun i k h => by (try dsimp only at h); exact (by first | exact h | omega)) (fun i h => h.elim)) f20 (fun i k h => by (try dsimp only at h); exact (by first | exact h | omega)) (fun i h => h.elim)) f42 (fun i k h => by (try dsimp only at h); exact (by first | exact h | omega)) (fun i h => by (try dsimp only at h); rcases h with h | h | h | h; exact Or.inl (by first | exact h | omega); exact Or.inr (Or.inl (by first | exact h | omega)); exact Or.inr (Or.inr (Or.inl (by first | exact h | omega))); exact Or.inr (Or.inr (Or.inr (by first | exact h | omega))))), ri43, mi44⟩
      · skip
        have c45 := wt_nceq h34
        have g47 : 0 ≤ (wt_gf r18.2 108 39).toInt ∧ (wt_gf r18.2 108 39).toInt ≤ 8 := wt_Rf7 ri21
        have tt48 : (wt_gf r18.2 108 39).toInt = (wt_gf σ3 108 39).toInt := congrArg Int32.toInt (f20.1 108 39 (by (try dsimp only); omega))
        refine wt_T.imp (wq_md_cast_B39 n hn x1 x2 (0 : Int32) r18.2 ri21 mi23 (by first | with_reducible assumption | omega)) (fun r49 h50 => ?_)
        have bb51 := wt_bd r49.1
        obtain ⟨f52, ri53, mi54⟩ := h50
        exact ⟨(wt_fr.tr (wt_fr.tr (wt_fr.tr wt_fr.rf fσ3 (fun i k h => by (try dsimp only at h); exact (by first | exact h | omega)) (fun i h => h.elim)) f20 (fun i k h => by (try dsimp only at h); exact (by first | exact h | omega)) (fun i h => h.elim)) f52 (fun i k h => by (try dsimp only at h); exact (by first | exact h | omega)) (fun i h => by (try dsimp only at h); rcases h with h | h | h | h; exact Or.inl (by first | exact h | omega); exact Or.inr (Or.inl (by first | exact h | omega)); exact Or.inr (Or.inr (Or.inl (by first | exact h | omega))); exact Or.inr (Or.inr (Or.inr (by first | exact h | omega))))), ri53, mi54⟩
    · skip
      have c55 := wt_nceq h27
      refine wt_T_some ?_
      exact ⟨(wt_fr.tr (wt_fr.tr wt_fr.rf fσ3 (fun i k h => by (try dsimp only at h); exact (by first | exact h | omega)) (fun i h => h.elim)) f20 (fun i k h => by (try dsimp only at h); exact (by first | exact h | omega)) (fun i h => h.elim)), ri21, mi23⟩
  · skip
    have c56 := wt_nceq h15
    unfold wp_md_cast_B19
    have k57 : (1 : Int32).toInt = 1 := by decide
    refine wt_T_bi (wq_md_bad n hn (0 : Int32) (1 : Int32) σ3 rσ3 (by first | with_reducible assumption | omega)) (fun r58 h59 => ?_)
    obtain ⟨f60, ri61, pp62⟩ := h59
    have mi63 := wt_M_fr mσ3 f60 (by (try dsimp only); first | omega | exact fun h => h)
    have bb64 := wt_bd r58.1
    have bb65 := wt_bd (wt_gf r58.2 108 0)
    have bb66 := wt_bd (wt_gf σ3 108 0)
    refine wt_T_if (fun h67 => ?_) (fun h67 => ?_)
    · skip
      have c68 := wt_ceq h67
      refine wt_T_bi (wq_md_isCopies n hn x2 r58.2 ri61) (fun r69 h70 => ?_)
      obtain ⟨e71, pp72⟩ := h70
      have bb73 := wt_bd r69.1
      rw [e71]
      refine wt_T_if (fun h74 => ?_) (fun h74 => ?_)
      · skip
        have c75 := wt_ceq h74
        have g77 : 0 ≤ (wt_gf r58.2 108 39).toInt ∧ (wt_gf r58.2 108 39).toInt ≤ 8 := wt_Rf7 ri61
        have tt78 : (wt_gf r58.2 108 39).toInt = (wt_gf σ3 108 39).toInt := congrArg Int32.toInt (f60.1 108 39 (by (try dsimp only); omega))
        refine wt_T.imp (wq_md_cast_B39 n hn x1 x2 (1 : Int32) r58.2 ri61 mi63 (by first | with_reducible assumption | omega)) (fun r79 h80 => ?_)
        have bb81 := wt_bd r79.1
        obtain ⟨f82, ri83, mi84⟩ := h80
        exact ⟨(wt_fr.tr (wt_fr.tr (wt_fr.tr wt_fr.rf fσ3 (fun i k h => by (try dsimp only at h); exact (by first | exact h | omega)) (fun i h => h.elim)) f60 (fun i k h => by (try dsimp only at h); exact (by first | exact h | omega)) (fun i h => h.elim)) f82 (fun i k h => by (try dsimp only at h); exact (by first | exact h | omega)) (fun i h => by (try dsimp only at h); rcases h with h | h | h | h; exact Or.inl (by first | exact h | omega); exact Or.inr (Or.inl (by first | exact h | omega)); exact Or.inr (Or.inr (Or.inl (by first | exact h | omega))); exact Or.inr (Or.inr (Or.inr (by first | exact h | omega))))), ri83, mi84⟩
      · skip
        have c85 := wt_nceq h74
        have g87 : 0 ≤ (wt_gf r58.2 108 39).toInt ∧ (wt_gf r58.2 108 39).toInt ≤ 8 := wt_Rf7 ri61
        have tt88 : (wt_gf r58.2 108 39).toInt = (wt_gf σ3 108 39).toInt := congrArg Int32.toInt (f60.1 108 39 (by (try dsimp only); omega))
        refine wt_T.imp (wq_md_cast_B39 n hn x1 x2 (0 : Int32) r58.2 ri61 mi63 (by first | with_reducible assumption | omega)) (fun r89 h90 => ?_)
        have bb91 := wt_bd r89.1
        obtain ⟨f92, ri93, mi94⟩ := h90
        exact ⟨(wt_fr.tr (wt_fr.tr (wt_fr.tr wt_fr.rf fσ3 (fun i k h => by (try dsimp only at h); exact (by first | exact h | omega)) (fun i h => h.elim)) f60 (fun i k h => by (try dsimp only at h); exact (by first | exact h | omega)) (fun i h => h.elim)) f92 (fun i k h => by (try dsimp only at h); exact (by first | exact h | omega)) (fun i h => by (try dsimp only at h); rcases h with h | h | h | h; exact Or.inl (by first | exact h | omega); exact Or.inr (Or.inl (by first | exact h | omega)); exact Or.inr (Or.inr (Or.inl (by first | exact h | omega))); exact Or.inr (Or.inr (Or.inr (by first | exact h | omega))))), ri93, mi94⟩
    · skip
      have c95 := wt_nceq h67
      refine wt_T_some ?_
      exact ⟨(wt_fr.tr (wt_fr.tr wt_fr.rf fσ3 (fun i k h => by (try dsimp only at h); exact (by first | exact h | omega)) (fun i h => h.elim)) f60 (fun i k h => by (try dsimp only at h); exact (by first | exact h | omega)) (fun i h => h.elim)), ri61, mi63⟩
set_option maxRecDepth 100000 in
set_option maxHeartbeats 4000000 in
theorem wq_md_wrong (n : Nat) (hn : 4294967297 < n) (x1 : Int32) (x2 : Int32) (σ : wt_St) (r0 : wt_RI σ) (p0 : 0 < x1.toInt) (p1 : x1.toInt ≤ 3) : wt_T (wp_md_wrong n x1 x2 σ) (fun q => wt_fr (fun i k => (i = 108 ∧ k = 5) ∨ (i = 108 ∧ k = 6)) (fun i => False) σ q ∧ wt_RI q ∧ ((wt_gf q 108 5).toInt ≠ 0)) := by
  have bb1 := wt_bd x1
  have bb2 := wt_bd x2
  unfold wp_md_wrong
  have g4 : 0 ≤ (wt_gf σ 108 5).toInt ∧ (wt_gf σ 108 5).toInt ≤ 3 := wt_Rf3 r0
  have k5 : (0 : Int32).toInt = 0 := by decide
  refine wt_T_if (fun h6 => ?_) (fun h6 => ?_)
  · skip
    have c7 := wt_ceq h6
    obtain ⟨σ8, eσ8⟩ : ∃ z : wt_St, z = wt_sf σ 108 5 x1 := ⟨_, rfl⟩
    rw [← eσ8]
    have fσ8 := wt_fr_sf eσ8
    have vσ8 := wt_ceq (wt_v_sf eσ8)
    have rσ8 := wt_Rm3 r0 eσ8 (show 0 ≤ (x1).toInt by omega) (show (x1).toInt ≤ 3 by omega)
    obtain ⟨σ9, eσ9⟩ : ∃ z : wt_St, z = wt_sf σ8 108 6 x2 := ⟨_, rfl⟩
    rw [← eσ9]
    have fσ9 := wt_fr_sf eσ9
    have vσ9 := wt_ceq (wt_v_sf eσ9)
    have rσ9 := wt_RI_fno rσ8 eσ9 (Or.inr (by decide +kernel))
    refine wt_T_some ?_
    have g11 : 0 ≤ (wt_gf σ9 108 5).toInt ∧ (wt_gf σ9 108 5).toInt ≤ 3 := wt_Rf3 rσ9
    have tt12 : (wt_gf σ9 108 5).toInt = (wt_gf σ8 108 5).toInt := congrArg Int32.toInt (fσ9.1 108 5 (by (try dsimp only); omega))
    exact ⟨(wt_fr.tr (wt_fr.tr wt_fr.rf fσ8 (fun i k h => by (try dsimp only at h); exact Or.inl (by first | exact h | omega)) (fun i h => h.elim)) fσ9 (fun i k h => by (try dsimp only at h); exact Or.inr (by first | exact h | omega)) (fun i h => h.elim)), rσ9, (show ((wt_gf σ9 108 5).toInt ≠ 0) from by omega)⟩
  · skip
    have c15 := wt_nceq h6
    refine wt_T_some ?_
    exact ⟨wt_fr.rf, r0, (show ((wt_gf σ 108 5).toInt ≠ 0) from by omega)⟩
set_option maxRecDepth 100000 in
set_option maxHeartbeats 4000000 in
theorem wq_md_closes (n : Nat) (hn : 4294967297 < n) (x1 : Int32) (σ : wt_St) (r0 : wt_RI σ) (p0 : 0 ≤ x1.toInt) : wt_T (wp_md_closes n x1 σ) (fun q => wt_fr (fun i k => (i = 108 ∧ k = 4) ∨ (i = 108 ∧ k = 5) ∨ (i = 108 ∧ k = 6)) (fun i => False) σ q ∧ wt_RI q ∧ ((wt_gf σ 108 5).toInt = 0 ∨ (wt_gf q 108 5).toInt = (wt_gf σ 108 5).toInt)) := by
  have bb1 := wt_bd x1
  unfold wp_md_closes
  have g3 : 0 ≤ (wt_gf σ 108 5).toInt ∧ (wt_gf σ 108 5).toInt ≤ 3 := wt_Rf3 r0
  have k4 : (0 : Int32).toInt = 0 := by decide
  refine wt_T_if (fun h5 => ?_) (fun h5 => ?_)
  · skip
    have c6 := wt_ceq h5
    refine wt_T_bi (wq_md_blanks n hn σ r0) (fun r7 h8 => ?_)
    obtain ⟨f9, ri10, pp11⟩ := h8
    have g13 : 0 ≤ (wt_gf σ 108 4).toInt ∧ (wt_gf σ 108 4).toInt ≤ 500 := wt_Rf2 r0
    have g15 : 0 ≤ (wt_gf r7 108 4).toInt ∧ (wt_gf r7 108 4).toInt ≤ 500 := wt_Rf2 ri10
    refine wt_T_bi (wq_md_byteAt n hn (wt_gf r7 108 4) r7 ri10 (by first | with_reducible assumption | omega)) (fun r16 h17 => ?_)
    obtain ⟨e18, pp19⟩ := h17
    have bb20 := wt_bd r16.1
    rw [e18]
    have g22 : 0 ≤ (wt_gf r7 108 2).toInt ∧ (wt_gf r7 108 2).toInt ≤ 500 := wt_Rf1 ri10
    have tt23 : (wt_gf r7 108 2).toInt = (wt_gf σ 108 2).toInt := congrArg Int32.toInt (f9.1 108 2 (by (try dsimp only); omega))
    have bb26 := wt_tn (wt_gf r7 108 4)
    have bb27 := wt_bd (wt_ga r7 109 (Int32.toNatClampNeg (wt_gf r7 108 4)))
    have tt28 : (wt_ga r7 109 (Int32.toNatClampNeg (wt_gf r7 108 4))).toInt = (wt_ga σ 109 (Int32.toNatClampNeg (wt_gf r7 108 4))).toInt := congrArg Int32.toInt (f9.2 109 (fun z => z) (Int32.toNatClampNeg (wt_gf r7 108 4)))
    have bb29 := wt_bd (wt_ga σ 109 (Int32.toNatClampNeg (wt_gf r7 108 4)))
    refine wt_T_if (fun h30 => ?_) (fun h30 => ?_)
    · skip
      have c31 := wt_ceq h30
      obtain ⟨σ32, eσ32⟩ : ∃ z : wt_St, z = wt_sf r7 108 4 ((wt_gf r7 108 4) + (1 : Int32)) := ⟨_, rfl⟩
      rw [← eσ32]
      have fσ32 := wt_fr_sf eσ32
      have vσ32 := wt_ceq (wt_v_sf eσ32)
      have k33 : (1 : Int32).toInt = 1 := by decide
      obtain ⟨j34, j34a, j34b⟩ := wt_addI (wt_gf r7 108 4) (1 : Int32)
      have rσ32 := wt_Rm2 ri10 eσ32 (show 0 ≤ ((wt_gf r7 108 4) + (1 : Int32)).toInt by omega) (show ((wt_gf r7 108 4) + (1 : Int32)).toInt ≤ 500 by omega)
      refine wt_T_some ?_
      have g36 : 0 ≤ (wt_gf σ32 108 5).toInt ∧ (wt_gf σ32 108 5).toInt ≤ 3 := wt_Rf3 rσ32
      have tt37 : (wt_gf σ32 108 5).toInt = (wt_gf r7 108 5).toInt := congrArg Int32.toInt (fσ32.1 108 5 (by (try dsimp only); omega))
      have tt40 : (wt_gf r7 108 5).toInt = (wt_gf σ 108 5).toInt := congrArg Int32.toInt (f9.1 108 5 (by (try dsimp only); omega))
      exact ⟨(wt_fr.tr (wt_fr.tr wt_fr.rf f9 (fun i k h => by (try dsimp only at h); exact Or.inl (by first | exact h | omega)) (fun i h => h.elim)) fσ32 (fun i k h => by (try dsimp only at h); exact Or.inl (by first | exact h | omega)) (fun i h => h.elim)), rσ32, (show ((wt_gf σ 108 5).toInt = 0 ∨ (wt_gf σ32 108 5).toInt = (wt_gf σ 108 5).toInt) from by omega)⟩
    · skip
      have c41 := wt_nceq h30
      have k42 : (1 : Int32).toInt = 1 := by decide
      refine wt_T_bi (wq_md_wrong n hn (1 : Int32) (wt_gf r7 108 4) r7 ri10 (by first | with_reducible assumption | omega) (by first | with_reducible assumption | omega)) (fun r43 h44 => ?_)
      obtain ⟨f45, ri46, pp47⟩ := h44
      have g49 : 0 ≤ (wt_gf r43 108 5).toInt ∧ (wt_gf r43 108 5).toInt ≤ 3 := wt_Rf3 ri46
      refine wt_T_some ?_
      exact ⟨(wt_fr.tr (wt_fr.tr wt_fr.rf f9 (fun i k h => by (try dsimp only at h); exact Or.inl (by first | exact h | omega)) (fun i h => h.elim)) f45 (fun i k h => by (try dsimp only at h); rcases h with h | h; exact Or.inr (Or.inl (by first | exact h | omega)); exact Or.inr (Or.inr (by first | exact h | omega))) (fun i h => h.elim)), ri46, (show ((wt_gf σ 108 5).toInt = 0 ∨ (wt_gf r43 108 5).toInt = (wt_gf σ 108 5).toInt) from by omega)⟩
  · skip
    have c50 := wt_nceq h5
    refine wt_T_some ?_
    exact ⟨wt_fr.rf, r0, (show ((wt_gf σ 108 5).toInt = 0 ∨ (wt_gf σ 108 5).toInt = (wt_gf σ 108 5).toInt) from by omega)⟩
set_option maxRecDepth 100000 in
set_option maxHeartbeats 4000000 in
theorem wq_md_isSmall (n : Nat) (hn : 4294967297 < n) (x0 : Int32) (σ : wt_St) (r0 : wt_RI σ) : wt_T (wp_md_isSmall n x0 σ) (fun q => q.2 = σ ∧ ((q.1.toInt = 0) ∨ (q.1.toInt = 1 ∧ 97 ≤ x0.toInt ∧ x0.toInt ≤ 122))) := by
  have bb1 := wt_bd x0
  unfold wp_md_isSmall
  have k2 : (97 : Int32).toInt = 97 := by decide
  refine wt_T_if (fun h3 => ?_) (fun h3 => ?_)
  · skip
    have c4 := wt_clt h3
    refine wt_T_some ?_
    have k5 : (0 : Int32).toInt = 0 := by decide
    exact ⟨rfl, (show (((0 : Int32).toInt = 0) ∨ ((0 : Int32).toInt = 1 ∧ 97 ≤ x0.toInt ∧ x0.toInt ≤ 122)) from by omega)⟩
  · skip
    have c6 := wt_ncl h3
    have k7 : (122 : Int32).toInt = 122 := by decide
    refine wt_T_if (fun h8 => ?_) (fun h8 => ?_)
    · skip
      have c9 := wt_clt h8
      refine wt_T_some ?_
      have k10 : (0 : Int32).toInt = 0 := by decide
      exact ⟨rfl, (show (((0 : Int32).toInt = 0) ∨ ((0 : Int32).toInt = 1 ∧ 97 ≤ x0.toInt ∧ x0.toInt ≤ 122)) from by omega)⟩
    · skip
      have c11 := wt_ncl h8
      refine wt_T_some ?_
      have k12 : (1 : Int32).toInt = 1 := by decide
      exact ⟨rfl, (show (((1 : Int32).toInt = 0) ∨ ((1 : Int32).toInt = 1 ∧ 97 ≤ x0.toInt ∧ x0.toInt ≤ 122)) from by omega)⟩
set_option maxRecDepth 100000 in
set_option maxHeartbeats 4000000 in
theorem wq_md_lettersHere (n : Nat) (hn : 4294967297 < n) (σ : wt_St) (r0 : wt_RI σ) : wt_T (wp_md_lettersHere n σ) (fun q => wt_fr (fun i k => (i = 108 ∧ k = 4)) (fun i => False) σ q.2 ∧ wt_RI q.2 ∧ ((0 ≤ q.1.toInt ∧ (wt_gf σ 108 4).toInt ≤ (wt_gf q.2 108 4).toInt) ∧ (q.1.toInt = 0 ∨ (wt_gf q.2 108 4).toInt + q.1.toInt ≤ (wt_gf q.2 108 2).toInt) ∧ ∀ x : Int32, (wt_gf q.2 108 4).toInt ≤ x.toInt → x.toInt < (wt_gf q.2 108 4).toInt + q.1.toInt → 97 ≤ (wt_ga q.2 109 (Int32.toNatClampNeg x)).toInt ∧ (wt_ga q.2 109 (Int32.toNatClampNeg x)).toInt ≤ 122)) := by
  unfold wp_md_lettersHere
  refine wt_T_bi (wq_md_blanks n hn σ r0) (fun q1 h1 => ?_)
  obtain ⟨f1, r1, b1⟩ := h1
  have k0 : (0 : Int32).toInt = 0 := by decide
  have g2 : 0 ≤ (wt_gf q1 108 2).toInt ∧ (wt_gf q1 108 2).toInt ≤ 500 := wt_Rf1 r1
  have g4 : 0 ≤ (wt_gf q1 108 4).toInt ∧ (wt_gf q1 108 4).toInt ≤ 500 := wt_Rf2 r1
  refine wt_T_it (fun s : Int32 × wt_St => s.2 = q1 ∧ 0 ≤ s.1.toInt ∧ (s.1.toInt = 0 ∨ (wt_gf q1 108 4).toInt + s.1.toInt ≤ (wt_gf q1 108 2).toInt) ∧ ∀ x : Int32, (wt_gf q1 108 4).toInt ≤ x.toInt → x.toInt < (wt_gf q1 108 4).toInt + s.1.toInt → 97 ≤ (wt_ga q1 109 (Int32.toNatClampNeg x)).toInt ∧ (wt_ga q1 109 (Int32.toNatClampNeg x)).toInt ≤ 122) (fun s => (501 - s.1.toInt).toNat) (fun K z hI hK => ?_) n _ ?_ ?_
  · obtain ⟨e, l1, l2, l3⟩ := hI
    unfold wp_md_lettersHere_B6
    rw [e]
    have ea : ((wt_gf q1 108 4) + z.1).toInt = (wt_gf q1 108 4).toInt + z.1.toInt := wt_addE (by first | with_reducible assumption | omega) (by first | with_reducible assumption | omega)
    refine wt_T_bi (wq_md_byteAt n hn ((wt_gf q1 108 4) + z.1) q1 r1 (by first | with_reducible assumption | omega)) (fun b hb => ?_)
    obtain ⟨eb, pb⟩ := hb
    rw [eb]
    refine wt_T_bi (wq_md_isSmall n hn b.1 q1 r1) (fun c hc => ?_)
    obtain ⟨ec, pc⟩ := hc
    rw [ec]
    refine wt_T_if (fun h => ?_) (fun h => ?_)
    · exact wt_T_some ⟨f1, r1, ⟨l1, b1⟩, l2, l3⟩
    · have hn0 := wt_nceq h
      have ei := wt_i1 (c := z.1) (by first | with_reducible assumption | omega)
      refine hK _ ⟨rfl, (show 0 ≤ (z.1 + (1 : Int32)).toInt by omega), (show (z.1 + (1 : Int32)).toInt = 0 ∨ (wt_gf q1 108 4).toInt + (z.1 + (1 : Int32)).toInt ≤ (wt_gf q1 108 2).toInt by omega), fun x hx1 hx2 => ?_⟩ ?_
      · have hx2' : x.toInt < (wt_gf q1 108 4).toInt + (z.1 + (1 : Int32)).toInt := hx2
        by_cases hx : x.toInt < (wt_gf q1 108 4).toInt + z.1.toInt
        · exact l3 x hx1 hx
        · have : x = (wt_gf q1 108 4) + z.1 := wt_eqI (by first | with_reducible assumption | omega)
          rw [this]
          omega
      · show (501 - (z.1 + (1 : Int32)).toInt).toNat < (501 - z.1.toInt).toNat
        omega
  · exact ⟨rfl, (show 0 ≤ (0 : Int32).toInt by omega), Or.inl k0, fun x h1 h2 => by
      have h2' : x.toInt < (wt_gf q1 108 4).toInt + (0 : Int32).toInt := h2
      omega⟩
  · show (501 - (0 : Int32).toInt).toNat < n
    omega
set_option maxRecDepth 100000 in
set_option maxHeartbeats 4000000 in
theorem wq_md_isWord (n : Nat) (hn : 4294967297 < n) (x1 : Int32) (σ : wt_St) (r0 : wt_RI σ) : wt_T (wp_md_isWord n x1 σ) (fun q => wt_fr (fun i k => (i = 108 ∧ k = 4)) (fun i => False) σ q.2 ∧ wt_RI q.2) := by
  have bb1 := wt_bd x1
  unfold wp_md_isWord
  refine wt_T_bi (wq_md_lettersHere n hn σ r0) (fun r2 h3 => ?_)
  obtain ⟨f4, ri5, pp6⟩ := h3
  have bb7 := wt_bd r2.1
  have g9 : 0 ≤ (wt_gf σ 108 4).toInt ∧ (wt_gf σ 108 4).toInt ≤ 500 := wt_Rf2 r0
  have g11 : 0 ≤ (wt_gf r2.2 108 4).toInt ∧ (wt_gf r2.2 108 4).toInt ≤ 500 := wt_Rf2 ri5
  have g13 : 0 ≤ (wt_gf r2.2 108 2).toInt ∧ (wt_gf r2.2 108 2).toInt ≤ 500 := wt_Rf1 ri5
  have tt14 : (wt_gf r2.2 108 2).toInt = (wt_gf σ 108 2).toInt := congrArg Int32.toInt (f4.1 108 2 (by (try dsimp only); omega))
  have k22 : (0 : Int32).toInt = 0 := by decide
  refine wt_T_it (fun s : Int32 × Int32 × wt_St => s.2.2 = r2.2 ∧ 0 ≤ (s.2.1).toInt) (fun s : Int32 × Int32 × wt_St => (r2.1.toInt - s.2.1.toInt + 0).toNat) (fun KK17 z18 I19 hKK17 => ?_) _ _ ?_ ?_
  · skip
    obtain ⟨l20, l21⟩ := I19
    unfold wp_md_isWord_B10
    rw [l20]
    have bb23 := wt_bd z18.2.1
    refine wt_T_if (fun h24 => ?_) (fun h24 => ?_)
    · skip
      have c25 := wt_cle h24
      unfold wp_md_isWord_B51
      have g27 : 0 ≤ (wt_gf r2.2 108 5).toInt ∧ (wt_gf r2.2 108 5).toInt ≤ 3 := wt_Rf3 ri5
      have tt28 : (wt_gf r2.2 108 5).toInt = (wt_gf σ 108 5).toInt := congrArg Int32.toInt (f4.1 108 5 (by (try dsimp only); omega))
      refine wt_T_if (fun h31 => ?_) (fun h31 => ?_)
      · skip
        have c32 := wt_ceq h31
        have k33 : (7 : Int32).toInt = 7 := by decide
        refine wt_T_if (fun h34 => ?_) (fun h34 => ?_)
        · skip
          have c35 := wt_cle h34
          refine wt_T_some ?_
          exact ⟨(wt_fr.tr wt_fr.rf f4 (fun i k h => by (try dsimp only at h); exact (by first | exact h | omega)) (fun i h => h.elim)), ri5⟩
        · skip
          have c36 := wt_ncle h34
          have bb37 := wt_bd z18.1
          refine wt_T_if (fun h38 => ?_) (fun h38 => ?_)
          · skip
            have c39 := wt_ceq h38
            refine wt_T_some ?_
            exact ⟨(wt_fr.tr wt_fr.rf f4 (fun i k h => by (try dsimp only at h); exact (by first | exact h | omega)) (fun i h => h.elim)), ri5⟩
          · skip
            have c40 := wt_nceq h38
            refine wt_T_some ?_
            exact ⟨(wt_fr.tr wt_fr.rf f4 (fun i k h => by (try dsimp only at h); exact (by first | exact h | omega)) (fun i h => h.elim)), ri5⟩
      · skip
        have c41 := wt_nceq h31
        refine wt_T_some ?_
        exact ⟨(wt_fr.tr wt_fr.rf f4 (fun i k h => by (try dsimp only at h); exact (by first | exact h | omega)) (fun i h => h.elim)), ri5⟩
    · skip
      have c42 := wt_ncle h24
      have k43 : (7 : Int32).toInt = 7 := by decide
      refine wt_T_if (fun h44 => ?_) (fun h44 => ?_)
      · skip
        have c45 := wt_cle h44
        unfold wp_md_isWord_B51
        have g47 : 0 ≤ (wt_gf r2.2 108 5).toInt ∧ (wt_gf r2.2 108 5).toInt ≤ 3 := wt_Rf3 ri5
        have tt48 : (wt_gf r2.2 108 5).toInt = (wt_gf σ 108 5).toInt := congrArg Int32.toInt (f4.1 108 5 (by (try dsimp only); omega))
        refine wt_T_if (fun h51 => ?_) (fun h51 => ?_)
        · skip
          have c52 := wt_ceq h51
          refine wt_T_if (fun h53 => ?_) (fun h53 => ?_)
          · skip
            have c54 := wt_cle h53
            refine wt_T_some ?_
            exact ⟨(wt_fr.tr wt_fr.rf f4 (fun i k h => by (try dsimp only at h); exact (by first | exact h | omega)) (fun i h => h.elim)), ri5⟩
          · skip
            have c55 := wt_ncle h53
            have bb56 := wt_bd z18.1
            refine wt_T_if (fun h57 => ?_) (fun h57 => ?_)
            · skip
              have c58 := wt_ceq h57
              refine wt_T_some ?_
              exact ⟨(wt_fr.tr wt_fr.rf f4 (fun i k h => by (try dsimp only at h); exact (by first | exact h | omega)) (fun i h => h.elim)), ri5⟩
            · skip
              have c59 := wt_nceq h57
              refine wt_T_some ?_
              exact ⟨(wt_fr.tr wt_fr.rf f4 (fun i k h => by (try dsimp only at h); exact (by first | exact h | omega)) (fun i h => h.elim)), ri5⟩
        · skip
          have c60 := wt_nceq h51
          refine wt_T_some ?_
          exact ⟨(wt_fr.tr wt_fr.rf f4 (fun i k h => by (try dsimp only at h); exact (by first | exact h | omega)) (fun i h => h.elim)), ri5⟩
      · skip
        have c61 := wt_ncle h44
        obtain ⟨j62, j62a, j62b⟩ := wt_addI (wt_gf r2.2 108 4) z18.2.1
        refine wt_T_bi (wq_md_byteAt n hn ((wt_gf r2.2 108 4) + z18.2.1) r2.2 ri5 (by first | with_reducible assumption | omega)) (fun r63 h64 => ?_)
        obtain ⟨e65, pp66⟩ := h64
        have bb67 := wt_bd r63.1
        rw [e65]
        have bb68 := wt_tn ((wt_gf r2.2 108 4) + z18.2.1)
        have bb69 := wt_bd (wt_ga r2.2 109 (Int32.toNatClampNeg ((wt_gf r2.2 108 4) + z18.2.1)))
        have tt70 : (wt_ga r2.2 109 (Int32.toNatClampNeg ((wt_gf r2.2 108 4) + z18.2.1))).toInt = (wt_ga σ 109 (Int32.toNatClampNeg ((wt_gf r2.2 108 4) + z18.2.1))).toInt := congrArg Int32.toInt (f4.2 109 (fun z => z) (Int32.toNatClampNeg ((wt_gf r2.2 108 4) + z18.2.1)))
        have bb71 := wt_bd (wt_ga σ 109 (Int32.toNatClampNeg ((wt_gf r2.2 108 4) + z18.2.1)))
        have k72 : (27 : Int32).toInt = 27 := by decide
        have bb73 := wt_bd z18.1
        obtain ⟨j74, j74a, j74b⟩ := wt_mulI (27 : Int32) z18.1
        rw [show (27 : Int32).toInt = 27 from by decide] at j74a
        obtain ⟨j75, j75a, j75b⟩ := wt_addI ((27 : Int32) * z18.1) r63.1
        have k76 : (97 : Int32).toInt = 97 := by decide
        obtain ⟨j77, j77a, j77b⟩ := wt_subI (((27 : Int32) * z18.1) + r63.1) (97 : Int32)
        have k78 : (1 : Int32).toInt = 1 := by decide
        obtain ⟨j79, j79a, j79b⟩ := wt_addI ((((27 : Int32) * z18.1) + r63.1) - (97 : Int32)) (1 : Int32)
        refine hKK17 _ ⟨rfl, (wt_nn (B := r2.1) (by first | with_reducible assumption | omega) (by first | (rw [l20]; omega) | (rw [l20]; done) | omega))⟩ ?_
        show (r2.1.toInt - (z18.2.1 + (1 : Int32)).toInt + 0).toNat < (r2.1.toInt - z18.2.1.toInt + 0).toNat
        exact wt_mu (by first | (rw [l20]; omega) | (rw [l20]; done) | omega) (by first | (rw [l20]; omega) | (rw [l20]; done) | omega)
  · skip
    exact ⟨rfl, (show 0 ≤ ((0 : Int32)).toInt by omega)⟩
  · skip
    show (r2.1.toInt - (0 : Int32).toInt + 0).toNat < n
    omega
set_option maxRecDepth 100000 in
set_option maxHeartbeats 4000000 in
theorem wq_md_letterHere (n : Nat) (hn : 4294967297 < n) (σ : wt_St) (r0 : wt_RI σ) : wt_T (wp_md_letterHere n σ) (fun q => wt_fr (fun i k => (i = 108 ∧ k = 4) ∨ (i = 108 ∧ k = 5) ∨ (i = 108 ∧ k = 6)) (fun i => False) σ q.2 ∧ wt_RI q.2 ∧ (0 ≤ q.1.toInt ∧ q.1.toInt ≤ 25)) := by
  unfold wp_md_letterHere
  have g2 : 0 ≤ (wt_gf σ 108 5).toInt ∧ (wt_gf σ 108 5).toInt ≤ 3 := wt_Rf3 r0
  have k3 : (0 : Int32).toInt = 0 := by decide
  refine wt_T_if (fun h4 => ?_) (fun h4 => ?_)
  · skip
    have c5 := wt_ceq h4
    refine wt_T_bi (wq_md_lettersHere n hn σ r0) (fun r6 h7 => ?_)
    obtain ⟨f8, ri9, pp10⟩ := h7
    have bb11 := wt_bd r6.1
    have g13 : 0 ≤ (wt_gf σ 108 4).toInt ∧ (wt_gf σ 108 4).toInt ≤ 500 := wt_Rf2 r0
    have g15 : 0 ≤ (wt_gf r6.2 108 4).toInt ∧ (wt_gf r6.2 108 4).toInt ≤ 500 := wt_Rf2 ri9
    have g17 : 0 ≤ (wt_gf r6.2 108 2).toInt ∧ (wt_gf r6.2 108 2).toInt ≤ 500 := wt_Rf1 ri9
    have tt18 : (wt_gf r6.2 108 2).toInt = (wt_gf σ 108 2).toInt := congrArg Int32.toInt (f8.1 108 2 (by (try dsimp only); omega))
    refine wt_T_bi (wq_md_byteAt n hn (wt_gf r6.2 108 4) r6.2 ri9 (by first | with_reducible assumption | omega)) (fun r21 h22 => ?_)
    obtain ⟨e23, pp24⟩ := h22
    have bb25 := wt_bd r21.1
    rw [e23]
    have bb26 := wt_tn (wt_gf r6.2 108 4)
    have bb27 := wt_bd (wt_ga r6.2 109 (Int32.toNatClampNeg (wt_gf r6.2 108 4)))
    have tt28 : (wt_ga r6.2 109 (Int32.toNatClampNeg (wt_gf r6.2 108 4))).toInt = (wt_ga σ 109 (Int32.toNatClampNeg (wt_gf r6.2 108 4))).toInt := congrArg Int32.toInt (f8.2 109 (fun z => z) (Int32.toNatClampNeg (wt_gf r6.2 108 4)))
    have bb29 := wt_bd (wt_ga σ 109 (Int32.toNatClampNeg (wt_gf r6.2 108 4)))
    have lh30 : (wt_gf r6.2 108 4).toInt ≤ (wt_gf r6.2 108 4).toInt → (wt_gf r6.2 108 4).toInt < (wt_gf r6.2 108 4).toInt + r6.1.toInt → 97 ≤ (wt_ga r6.2 109 (Int32.toNatClampNeg (wt_gf r6.2 108 4))).toInt ∧ (wt_ga r6.2 109 (Int32.toNatClampNeg (wt_gf r6.2 108 4))).toInt ≤ 122 := pp10.2.2 (wt_gf r6.2 108 4)
    refine wt_T_if (fun h31 => ?_) (fun h31 => ?_)
    · skip
      have c32 := wt_ceq h31
      have k33 : (1 : Int32).toInt = 1 := by decide
      refine wt_T_bi (wq_md_wrong n hn (1 : Int32) (wt_gf r6.2 108 4) r6.2 ri9 (by first | with_reducible assumption | omega) (by first | with_reducible assumption | omega)) (fun r34 h35 => ?_)
      obtain ⟨f36, ri37, pp38⟩ := h35
      have g40 : 0 ≤ (wt_gf r34 108 5).toInt ∧ (wt_gf r34 108 5).toInt ≤ 3 := wt_Rf3 ri37
      unfold wp_md_letterHere_B56
      obtain ⟨σ41, eσ41⟩ : ∃ z : wt_St, z = wt_sf r34 108 4 ((wt_gf r34 108 4) + r6.1) := ⟨_, rfl⟩
      rw [← eσ41]
      have fσ41 := wt_fr_sf eσ41
      have vσ41 := wt_ceq (wt_v_sf eσ41)
      have g43 : 0 ≤ (wt_gf r34 108 4).toInt ∧ (wt_gf r34 108 4).toInt ≤ 500 := wt_Rf2 ri37
      have tt44 : (wt_gf r34 108 4).toInt = (wt_gf r6.2 108 4).toInt := congrArg Int32.toInt (f36.1 108 4 (by (try dsimp only); omega))
      obtain ⟨j45, j45a, j45b⟩ := wt_addI (wt_gf r34 108 4) r6.1
      have rσ41 := wt_Rm2 ri37 eσ41 (show 0 ≤ ((wt_gf r34 108 4) + r6.1).toInt by omega) (show ((wt_gf r34 108 4) + r6.1).toInt ≤ 500 by omega)
      have g47 : 0 ≤ (wt_gf σ41 108 5).toInt ∧ (wt_gf σ41 108 5).toInt ≤ 3 := wt_Rf3 rσ41
      have tt48 : (wt_gf σ41 108 5).toInt = (wt_gf r34 108 5).toInt := congrArg Int32.toInt (fσ41.1 108 5 (by (try dsimp only); omega))
      refine wt_T_if (fun h49 => ?_) (fun h49 => ?_)
      · skip
        have c50 := wt_ceq h49
        refine wt_T_some ?_
        have k51 : (97 : Int32).toInt = 97 := by decide
        obtain ⟨j52, j52a, j52b⟩ := wt_subI r21.1 (97 : Int32)
        exact ⟨(wt_fr.tr (wt_fr.tr (wt_fr.tr wt_fr.rf f8 (fun i k h => by (try dsimp only at h); exact Or.inl (by first | exact h | omega)) (fun i h => h.elim)) f36 (fun i k h => by (try dsimp only at h); rcases h with h | h; exact Or.inr (Or.inl (by first | exact h | omega)); exact Or.inr (Or.inr (by first | exact h | omega))) (fun i h => h.elim)) fσ41 (fun i k h => by (try dsimp only at h); exact Or.inl (by first | exact h | omega)) (fun i h => h.elim)), rσ41, (show (0 ≤ (r21.1 - (97 : Int32)).toInt ∧ (r21.1 - (97 : Int32)).toInt ≤ 25) from by omega)⟩
      · skip
        have c53 := wt_nceq h49
        refine wt_T_some ?_
        exact ⟨(wt_fr.tr (wt_fr.tr (wt_fr.tr wt_fr.rf f8 (fun i k h => by (try dsimp only at h); exact Or.inl (by first | exact h | omega)) (fun i h => h.elim)) f36 (fun i k h => by (try dsimp only at h); rcases h with h | h; exact Or.inr (Or.inl (by first | exact h | omega)); exact Or.inr (Or.inr (by first | exact h | omega))) (fun i h => h.elim)) fσ41 (fun i k h => by (try dsimp only at h); exact Or.inl (by first | exact h | omega)) (fun i h => h.elim)), rσ41, (show (0 ≤ (0 : Int32).toInt ∧ (0 : Int32).toInt ≤ 25) from by omega)⟩
    · skip
      have c54 := wt_nceq h31
      have k55 : (1 : Int32).toInt = 1 := by decide
      refine wt_T_if (fun h56 => ?_) (fun h56 => ?_)
      · skip
        have c57 := wt_cle h56
        unfold wp_md_letterHere_B56
        obtain ⟨σ58, eσ58⟩ : ∃ z : wt_St, z = wt_sf r6.2 108 4 ((wt_gf r6.2 108 4) + r6.1) := ⟨_, rfl⟩
        rw [← eσ58]
        have fσ58 := wt_fr_sf eσ58
        have vσ58 := wt_ceq (wt_v_sf eσ58)
        obtain ⟨j59, j59a, j59b⟩ := wt_addI (wt_gf r6.2 108 4) r6.1
        have rσ58 := wt_Rm2 ri9 eσ58 (show 0 ≤ ((wt_gf r6.2 108 4) + r6.1).toInt by omega) (show ((wt_gf r6.2 108 4) + r6.1).toInt ≤ 500 by omega)
        have g61 : 0 ≤ (wt_gf σ58 108 5).toInt ∧ (wt_gf σ58 108 5).toInt ≤ 3 := wt_Rf3 rσ58
        have tt62 : (wt_gf σ58 108 5).toInt = (wt_gf r6.2 108 5).toInt := congrArg Int32.toInt (fσ58.1 108 5 (by (try dsimp only); omega))
        have tt65 : (wt_gf r6.2 108 5).toInt = (wt_gf σ 108 5).toInt := congrArg Int32.toInt (f8.1 108 5 (by (try dsimp only); omega))
        refine wt_T_if (fun h66 => ?_) (fun h66 => ?_)
        · skip
          have c67 := wt_ceq h66
          refine wt_T_some ?_
          have k68 : (97 : Int32).toInt = 97 := by decide
          obtain ⟨j69, j69a, j69b⟩ := wt_subI r21.1 (97 : Int32)
          exact ⟨(wt_fr.tr (wt_fr.tr wt_fr.rf f8 (fun i k h => by (try dsimp only at h); exact Or.inl (by first | exact h | omega)) (fun i h => h.elim)) fσ58 (fun i k h => by (try dsimp only at h); exact Or.inl (by first | exact h | omega)) (fun i h => h.elim)), rσ58, (show (0 ≤ (r21.1 - (97 : Int32)).toInt ∧ (r21.1 - (97 : Int32)).toInt ≤ 25) from by omega)⟩
        · skip
          have c70 := wt_nceq h66
          refine wt_T_some ?_
          exact ⟨(wt_fr.tr (wt_fr.tr wt_fr.rf f8 (fun i k h => by (try dsimp only at h); exact Or.inl (by first | exact h | omega)) (fun i h => h.elim)) fσ58 (fun i k h => by (try dsimp only at h); exact Or.inl (by first | exact h | omega)) (fun i h => h.elim)), rσ58, (show (0 ≤ (0 : Int32).toInt ∧ (0 : Int32).toInt ≤ 25) from by omega)⟩
      · skip
        have c71 := wt_ncle h56
        have k72 : (2 : Int32).toInt = 2 := by decide
        refine wt_T_bi (wq_md_wrong n hn (2 : Int32) (wt_gf r6.2 108 4) r6.2 ri9 (by first | with_reducible assumption | omega) (by first | with_reducible assumption | omega)) (fun r73 h74 => ?_)
        obtain ⟨f75, ri76, pp77⟩ := h74
        have g79 : 0 ≤ (wt_gf r73 108 5).toInt ∧ (wt_gf r73 108 5).toInt ≤ 3 := wt_Rf3 ri76
        unfold wp_md_letterHere_B56
        obtain ⟨σ80, eσ80⟩ : ∃ z : wt_St, z = wt_sf r73 108 4 ((wt_gf r73 108 4) + r6.1) := ⟨_, rfl⟩
        rw [← eσ80]
        have fσ80 := wt_fr_sf eσ80
        have vσ80 := wt_ceq (wt_v_sf eσ80)
        have g82 : 0 ≤ (wt_gf r73 108 4).toInt ∧ (wt_gf r73 108 4).toInt ≤ 500 := wt_Rf2 ri76
        have tt83 : (wt_gf r73 108 4).toInt = (wt_gf r6.2 108 4).toInt := congrArg Int32.toInt (f75.1 108 4 (by (try dsimp only); omega))
        obtain ⟨j84, j84a, j84b⟩ := wt_addI (wt_gf r73 108 4) r6.1
        have rσ80 := wt_Rm2 ri76 eσ80 (show 0 ≤ ((wt_gf r73 108 4) + r6.1).toInt by omega) (show ((wt_gf r73 108 4) + r6.1).toInt ≤ 500 by omega)
        have g86 : 0 ≤ (wt_gf σ80 108 5).toInt ∧ (wt_gf σ80 108 5).toInt ≤ 3 := wt_Rf3 rσ80
        have tt87 : (wt_gf σ80 108 5).toInt = (wt_gf r73 108 5).toInt := congrArg Int32.toInt (fσ80.1 108 5 (by (try dsimp only); omega))
        refine wt_T_if (fun h88 => ?_) (fun h88 => ?_)
        · skip
          have c89 := wt_ceq h88
          refine wt_T_some ?_
          have k90 : (97 : Int32).toInt = 97 := by decide
          obtain ⟨j91, j91a, j91b⟩ := wt_subI r21.1 (97 : Int32)
          exact ⟨(wt_fr.tr (wt_fr.tr (wt_fr.tr wt_fr.rf f8 (fun i k h => by (try dsimp only at h); exact Or.inl (by first | exact h | omega)) (fun i h => h.elim)) f75 (fun i k h => by (try dsimp only at h); rcases h with h | h; exact Or.inr (Or.inl (by first | exact h | omega)); exact Or.inr (Or.inr (by first | exact h | omega))) (fun i h => h.elim)) fσ80 (fun i k h => by (try dsimp only at h); exact Or.inl (by first | exact h | omega)) (fun i h => h.elim)), rσ80, (show (0 ≤ (r21.1 - (97 : Int32)).toInt ∧ (r21.1 - (97 : Int32)).toInt ≤ 25) from by omega)⟩
        · skip
          have c92 := wt_nceq h88
          refine wt_T_some ?_
          exact ⟨(wt_fr.tr (wt_fr.tr (wt_fr.tr wt_fr.rf f8 (fun i k h => by (try dsimp only at h); exact Or.inl (by first | exact h | omega)) (fun i h => h.elim)) f75 (fun i k h => by (try dsimp only at h); rcases h with h | h; exact Or.inr (Or.inl (by first | exact h | omega)); exact Or.inr (Or.inr (by first | exact h | omega))) (fun i h => h.elim)) fσ80 (fun i k h => by (try dsimp only at h); exact Or.inl (by first | exact h | omega)) (fun i h => h.elim)), rσ80, (show (0 ≤ (0 : Int32).toInt ∧ (0 : Int32).toInt ≤ 25) from by omega)⟩
  · skip
    have c93 := wt_nceq h4
    refine wt_T_some ?_
    exact ⟨wt_fr.rf, r0, (show (0 ≤ (0 : Int32).toInt ∧ (0 : Int32).toInt ≤ 25) from by omega)⟩
set_option maxRecDepth 100000 in
set_option maxHeartbeats 4000000 in
theorem wq_md_isDigit (n : Nat) (hn : 4294967297 < n) (x0 : Int32) (σ : wt_St) (r0 : wt_RI σ) : wt_T (wp_md_isDigit n x0 σ) (fun q => q.2 = σ ∧ ((q.1.toInt = 0) ∨ (q.1.toInt = 1 ∧ 48 ≤ x0.toInt ∧ x0.toInt ≤ 57))) := by
  have bb1 := wt_bd x0
  unfold wp_md_isDigit
  have k2 : (48 : Int32).toInt = 48 := by decide
  refine wt_T_if (fun h3 => ?_) (fun h3 => ?_)
  · skip
    have c4 := wt_clt h3
    refine wt_T_some ?_
    have k5 : (0 : Int32).toInt = 0 := by decide
    exact ⟨rfl, (show (((0 : Int32).toInt = 0) ∨ ((0 : Int32).toInt = 1 ∧ 48 ≤ x0.toInt ∧ x0.toInt ≤ 57)) from by omega)⟩
  · skip
    have c6 := wt_ncl h3
    have k7 : (57 : Int32).toInt = 57 := by decide
    refine wt_T_if (fun h8 => ?_) (fun h8 => ?_)
    · skip
      have c9 := wt_clt h8
      refine wt_T_some ?_
      have k10 : (0 : Int32).toInt = 0 := by decide
      exact ⟨rfl, (show (((0 : Int32).toInt = 0) ∨ ((0 : Int32).toInt = 1 ∧ 48 ≤ x0.toInt ∧ x0.toInt ≤ 57)) from by omega)⟩
    · skip
      have c11 := wt_ncl h8
      refine wt_T_some ?_
      have k12 : (1 : Int32).toInt = 1 := by decide
      exact ⟨rfl, (show (((1 : Int32).toInt = 0) ∨ ((1 : Int32).toInt = 1 ∧ 48 ≤ x0.toInt ∧ x0.toInt ≤ 57)) from by omega)⟩
set_option maxRecDepth 100000 in
set_option maxHeartbeats 4000000 in
theorem wq_md_number (n : Nat) (hn : 4294967297 < n) (x1 : Int32) (x2 : Int32) (σ : wt_St) (r0 : wt_RI σ) (p0 : 0 ≤ x1.toInt) : wt_T (wp_md_number n x1 x2 σ) (fun q => wt_fr (fun i k => (i = 108 ∧ k = 4) ∨ (i = 108 ∧ k = 5) ∨ (i = 108 ∧ k = 6)) (fun i => False) σ q.2 ∧ wt_RI q.2 ∧ ((q.1.toInt = 0 ∧ (wt_gf q.2 108 5).toInt ≠ 0) ∨ ((wt_gf q.2 108 5).toInt = 0 ∧ x1.toInt ≤ q.1.toInt ∧ q.1.toInt ≤ x2.toInt))) := by
  have bb1 := wt_bd x1
  have bb2 := wt_bd x2
  unfold wp_md_number
  have g4 : 0 ≤ (wt_gf σ 108 5).toInt ∧ (wt_gf σ 108 5).toInt ≤ 3 := wt_Rf3 r0
  have k5 : (0 : Int32).toInt = 0 := by decide
  refine wt_T_if (fun h6 => ?_) (fun h6 => ?_)
  · skip
    have c7 := wt_ceq h6
    refine wt_T_bi (wq_md_blanks n hn σ r0) (fun r8 h9 => ?_)
    obtain ⟨f10, ri11, pp12⟩ := h9
    have g14 : 0 ≤ (wt_gf σ 108 4).toInt ∧ (wt_gf σ 108 4).toInt ≤ 500 := wt_Rf2 r0
    have g16 : 0 ≤ (wt_gf r8 108 4).toInt ∧ (wt_gf r8 108 4).toInt ≤ 500 := wt_Rf2 ri11
    refine wt_T_bi (wq_md_byteAt n hn (wt_gf r8 108 4) r8 ri11 (by first | with_reducible assumption | omega)) (fun r17 h18 => ?_)
    obtain ⟨e19, pp20⟩ := h18
    have bb21 := wt_bd r17.1
    rw [e19]
    have g23 : 0 ≤ (wt_gf r8 108 2).toInt ∧ (wt_gf r8 108 2).toInt ≤ 500 := wt_Rf1 ri11
    have tt24 : (wt_gf r8 108 2).toInt = (wt_gf σ 108 2).toInt := congrArg Int32.toInt (f10.1 108 2 (by (try dsimp only); omega))
    have bb27 := wt_tn (wt_gf r8 108 4)
    have bb28 := wt_bd (wt_ga r8 109 (Int32.toNatClampNeg (wt_gf r8 108 4)))
    have tt29 : (wt_ga r8 109 (Int32.toNatClampNeg (wt_gf r8 108 4))).toInt = (wt_ga σ 109 (Int32.toNatClampNeg (wt_gf r8 108 4))).toInt := congrArg Int32.toInt (f10.2 109 (fun z => z) (Int32.toNatClampNeg (wt_gf r8 108 4)))
    have bb30 := wt_bd (wt_ga σ 109 (Int32.toNatClampNeg (wt_gf r8 108 4)))
    refine wt_T_bi (wq_md_isDigit n hn r17.1 r8 ri11) (fun r31 h32 => ?_)
    obtain ⟨e33, pp34⟩ := h32
    have bb35 := wt_bd r31.1
    rw [e33]
    refine wt_T_if (fun h36 => ?_) (fun h36 => ?_)
    · skip
      have c37 := wt_ceq h36
      have k38 : (1 : Int32).toInt = 1 := by decide
      refine wt_T_bi (wq_md_wrong n hn (1 : Int32) (wt_gf r8 108 4) r8 ri11 (by first | with_reducible assumption | omega) (by first | with_reducible assumption | omega)) (fun r39 h40 => ?_)
      obtain ⟨f41, ri42, pp43⟩ := h40
      have g45 : 0 ≤ (wt_gf r39 108 5).toInt ∧ (wt_gf r39 108 5).toInt ≤ 3 := wt_Rf3 ri42
      refine wt_T_it (fun s : Int32 × wt_St => wt_fr (fun i k => (i = 108 ∧ k = 4)) (fun i => False) r39 s.2 ∧ 0 ≤ s.1.toInt ∧ s.1.toInt ≤ 100000 ∧ wt_RI s.2) (fun s : Int32 × wt_St => ((wt_gf s.2 108 2).toInt - (wt_gf s.2 108 4).toInt).toNat) (fun KK46 z47 I48 hKK46 => ?_) _ _ ?_ ?_
      · skip
        obtain ⟨l49, l50, l51, l52⟩ := I48
        unfold wp_md_number_B44
        have g54 : 0 ≤ (wt_gf z47.2 108 2).toInt ∧ (wt_gf z47.2 108 2).toInt ≤ 500 := wt_Rf1 l52
        have tt55 : (wt_gf z47.2 108 2).toInt = (wt_gf r39 108 2).toInt := congrArg Int32.toInt (l49.1 108 2 (by (try dsimp only); omega))
        have tt58 : (wt_gf r39 108 2).toInt = (wt_gf r8 108 2).toInt := congrArg Int32.toInt (f41.1 108 2 (by (try dsimp only); omega))
        have g60 : 0 ≤ (wt_gf z47.2 108 4).toInt ∧ (wt_gf z47.2 108 4).toInt ≤ 500 := wt_Rf2 l52
        refine wt_T_bi (wq_md_byteAt n hn (wt_gf z47.2 108 4) z47.2 l52 (by first | with_reducible assumption | omega)) (fun r61 h62 => ?_)
        obtain ⟨e63, pp64⟩ := h62
        have bb65 := wt_bd r61.1
        rw [e63]
        have bb66 := wt_tn (wt_gf z47.2 108 4)
        have bb67 := wt_bd (wt_ga z47.2 109 (Int32.toNatClampNeg (wt_gf z47.2 108 4)))
        have tt68 : (wt_ga z47.2 109 (Int32.toNatClampNeg (wt_gf z47.2 108 4))).toInt = (wt_ga r39 109 (Int32.toNatClampNeg (wt_gf z47.2 108 4))).toInt := congrArg Int32.toInt (l49.2 109 (fun z => z) (Int32.toNatClampNeg (wt_gf z47.2 108 4)))
        have bb69 := wt_bd (wt_ga r39 109 (Int32.toNatClampNeg (wt_gf z47.2 108 4)))
        have tt70 : (wt_ga r39 109 (Int32.toNatClampNeg (wt_gf z47.2 108 4))).toInt = (wt_ga r8 109 (Int32.toNatClampNeg (wt_gf z47.2 108 4))).toInt := congrArg Int32.toInt (f41.2 109 (fun z => z) (Int32.toNatClampNeg (wt_gf z47.2 108 4)))
        have bb71 := wt_bd (wt_ga r8 109 (Int32.toNatClampNeg (wt_gf z47.2 108 4)))
        have tt72 : (wt_ga r8 109 (Int32.toNatClampNeg (wt_gf z47.2 108 4))).toInt = (wt_ga σ 109 (Int32.toNatClampNeg (wt_gf z47.2 108 4))).toInt := congrArg Int32.toInt (f10.2 109 (fun z => z) (Int32.toNatClampNeg (wt_gf z47.2 108 4)))
        have bb73 := wt_bd (wt_ga σ 109 (Int32.toNatClampNeg (wt_gf z47.2 108 4)))
        refine wt_T_bi (wq_md_isDigit n hn r61.1 z47.2 l52) (fun r74 h75 => ?_)
        obtain ⟨e76, pp77⟩ := h75
        have bb78 := wt_bd r74.1
        rw [e76]
        refine wt_T_if (fun h79 => ?_) (fun h79 => ?_)
        · skip
          have c80 := wt_ceq h79
          have bb81 := wt_bd z47.1
          refine wt_T_bi (wq_md_in n hn z47.1 x1 x2 z47.2 l52) (fun r82 h83 => ?_)
          obtain ⟨e84, pp85⟩ := h83
          have bb86 := wt_bd r82.1
          rw [e84]
          refine wt_T_if (fun h87 => ?_) (fun h87 => ?_)
          · skip
            have c88 := wt_ceq h87
            have k89 : (2 : Int32).toInt = 2 := by decide
            refine wt_T_bi (wq_md_wrong n hn (2 : Int32) (wt_gf r8 108 4) z47.2 l52 (by first | with_reducible assumption | omega) (by first | with_reducible assumption | omega)) (fun r90 h91 => ?_)
            obtain ⟨f92, ri93, pp94⟩ := h91
            have g96 : 0 ≤ (wt_gf r90 108 5).toInt ∧ (wt_gf r90 108 5).toInt ≤ 3 := wt_Rf3 ri93
            unfold wp_md_number_B122
            refine wt_T_if (fun h97 => ?_) (fun h97 => ?_)
            · skip
              have c98 := wt_ceq h97
              refine wt_T_some ?_
              exact ⟨(wt_fr.tr (wt_fr.tr (wt_fr.tr (wt_fr.tr wt_fr.rf f10 (fun i k h => by (try dsimp only at h); exact Or.inl (by first | exact h | omega)) (fun i h => h.elim)) f41 (fun i k h => by (try dsimp only at h); rcases h with h | h; exact Or.inr (Or.inl (by first | exact h | omega)); exact Or.inr (Or.inr (by first | exact h | omega))) (fun i h => h.elim)) l49 (fun i k h => by (try dsimp only at h); exact Or.inl (by first | exact h | omega)) (fun i h => h.elim)) f92 (fun i k h => by (try dsimp only at h); rcases h with h | h; exact Or.inr (Or.inl (by first | exact h | omega)); exact Or.inr (Or.inr (by first | exact h | omega))) (fun i h => h.elim)), ri93, (show ((z47.1.toInt = 0 ∧ (wt_gf r90 108 5).toInt ≠ 0) ∨ ((wt_gf r90 108 5).toInt = 0 ∧ x1.toInt ≤ z47.1.toInt ∧ z47.1.toInt ≤ x2.toInt)) from by omega)⟩
            · skip
              have c99 := wt_nceq h97
              refine wt_T_some ?_
              exact ⟨(wt_fr.tr (wt_fr.tr (wt_fr.tr (wt_fr.tr wt_fr.rf f10 (fun i k h => by (try dsimp only at h); exact Or.inl (by first | exact h | omega)) (fun i h => h.elim)) f41 (fun i k h => by (try dsimp only at h); rcases h with h | h; exact Or.inr (Or.inl (by first | exact h | omega)); exact Or.inr (Or.inr (by first | exact h | omega))) (fun i h => h.elim)) l49 (fun i k h => by (try dsimp only at h); exact Or.inl (by first | exact h | omega)) (fun i h => h.elim)) f92 (fun i k h => by (try dsimp only at h); rcases h with h | h; exact Or.inr (Or.inl (by first | exact h | omega)); exact Or.inr (Or.inr (by first | exact h | omega))) (fun i h => h.elim)), ri93, (show (((0 : Int32).toInt = 0 ∧ (wt_gf r90 108 5).toInt ≠ 0) ∨ ((wt_gf r90 108 5).toInt = 0 ∧ x1.toInt ≤ (0 : Int32).toInt ∧ (0 : Int32).toInt ≤ x2.toInt)) from by omega)⟩
          · skip
            have c100 := wt_nceq h87
            unfold wp_md_number_B122
            have g102 : 0 ≤ (wt_gf z47.2 108 5).toInt ∧ (wt_gf z47.2 108 5).toInt ≤ 3 := wt_Rf3 l52
            have tt103 : (wt_gf z47.2 108 5).toInt = (wt_gf r39 108 5).toInt := congrArg Int32.toInt (l49.1 108 5 (by (try dsimp only); omega))
            refine wt_T_if (fun h104 => ?_) (fun h104 => ?_)
            · skip
              have c105 := wt_ceq h104
              refine wt_T_some ?_
              exact ⟨(wt_fr.tr (wt_fr.tr (wt_fr.tr wt_fr.rf f10 (fun i k h => by (try dsimp only at h); exact Or.inl (by first | exact h | omega)) (fun i h => h.elim)) f41 (fun i k h => by (try dsimp only at h); rcases h with h | h; exact Or.inr (Or.inl (by first | exact h | omega)); exact Or.inr (Or.inr (by first | exact h | omega))) (fun i h => h.elim)) l49 (fun i k h => by (try dsimp only at h); exact Or.inl (by first | exact h | omega)) (fun i h => h.elim)), l52, (show ((z47.1.toInt = 0 ∧ (wt_gf z47.2 108 5).toInt ≠ 0) ∨ ((wt_gf z47.2 108 5).toInt = 0 ∧ x1.toInt ≤ z47.1.toInt ∧ z47.1.toInt ≤ x2.toInt)) from by omega)⟩
            · skip
              have c106 := wt_nceq h104
              refine wt_T_some ?_
              exact ⟨(wt_fr.tr (wt_fr.tr (wt_fr.tr wt_fr.rf f10 (fun i k h => by (try dsimp only at h); exact Or.inl (by first | exact h | omega)) (fun i h => h.elim)) f41 (fun i k h => by (try dsimp only at h); rcases h with h | h; exact Or.inr (Or.inl (by first | exact h | omega)); exact Or.inr (Or.inr (by first | exact h | omega))) (fun i h => h.elim)) l49 (fun i k h => by (try dsimp only at h); exact Or.inl (by first | exact h | omega)) (fun i h => h.elim)), l52, (show (((0 : Int32).toInt = 0 ∧ (wt_gf z47.2 108 5).toInt ≠ 0) ∨ ((wt_gf z47.2 108 5).toInt = 0 ∧ x1.toInt ≤ (0 : Int32).toInt ∧ (0 : Int32).toInt ≤ x2.toInt)) from by omega)⟩
        · skip
          have c107 := wt_nceq h79
          refine wt_T_bi (wq_md_byteAt n hn (wt_gf z47.2 108 4) z47.2 l52 (by first | with_reducible assumption | omega)) (fun r108 h109 => ?_)
          obtain ⟨e110, pp111⟩ := h109
          have bb112 := wt_bd r108.1
          rw [e110]
          have k113 : (10 : Int32).toInt = 10 := by decide
          have bb114 := wt_bd z47.1
          have j115b := wt_bd ((10 : Int32) * z47.1)
          have j115a : ((10 : Int32) * z47.1).toInt = 10 * (z47.1).toInt := wt_mulL (by decide) (by first | with_reducible assumption | omega) (by first | with_reducible assumption | omega)
          have j116b := wt_bd (((10 : Int32) * z47.1) + r108.1)
          have j116a : (((10 : Int32) * z47.1) + r108.1).toInt = ((10 : Int32) * z47.1).toInt + (r108.1).toInt := wt_addE (by first | with_reducible assumption | omega) (by first | with_reducible assumption | omega)
          have k117 : (48 : Int32).toInt = 48 := by decide
          have j118b := wt_bd ((((10 : Int32) * z47.1) + r108.1) - (48 : Int32))
          have j118a : ((((10 : Int32) * z47.1) + r108.1) - (48 : Int32)).toInt = (((10 : Int32) * z47.1) + r108.1).toInt - ((48 : Int32)).toInt := wt_subE (by first | with_reducible assumption | omega) (by first | with_reducible assumption | omega)
          have k119 : (100000 : Int32).toInt = 100000 := by decide
          refine wt_T_if (fun h120 => ?_) (fun h120 => ?_)
          · skip
            have c121 := wt_cle h120
            unfold wp_md_number_B91
            obtain ⟨σ122, eσ122⟩ : ∃ z : wt_St, z = wt_sf z47.2 108 4 ((wt_gf z47.2 108 4) + (1 : Int32)) := ⟨_, rfl⟩
            rw [← eσ122]
            have fσ122 := wt_fr_sf eσ122
            have vσ122 := wt_ceq (wt_v_sf eσ122)
            have j123b := wt_bd ((wt_gf z47.2 108 4) + (1 : Int32))
            have j123a : ((wt_gf z47.2 108 4) + (1 : Int32)).toInt = (wt_gf z47.2 108 4).toInt + ((1 : Int32)).toInt := wt_addE (by first | with_reducible assumption | omega) (by first | with_reducible assumption | omega)
            have rσ122 := wt_Rm2 l52 eσ122 (show 0 ≤ ((wt_gf z47.2 108 4) + (1 : Int32)).toInt by omega) (show ((wt_gf z47.2 108 4) + (1 : Int32)).toInt ≤ 500 by omega)
            have g125 : 0 ≤ (wt_gf σ122 108 2).toInt ∧ (wt_gf σ122 108 2).toInt ≤ 500 := wt_Rf1 rσ122
            have tt126 : (wt_gf σ122 108 2).toInt = (wt_gf z47.2 108 2).toInt := congrArg Int32.toInt (fσ122.1 108 2 (by (try dsimp only); omega))
            have g128 : 0 ≤ (wt_gf σ122 108 4).toInt ∧ (wt_gf σ122 108 4).toInt ≤ 500 := wt_Rf2 rσ122
            refine hKK46 _ ⟨(wt_fr.tr (wt_fr.tr wt_fr.rf l49 (fun i k h => by (try dsimp only at h); exact (by first | exact h | omega)) (fun i h => h.elim)) fσ122 (fun i k h => by (try dsimp only at h); exact (by first | exact h | omega)) (fun i h => h.elim)), (show 0 ≤ ((((10 : Int32) * z47.1) + r108.1) - (48 : Int32)).toInt by omega), (show ((((10 : Int32) * z47.1) + r108.1) - (48 : Int32)).toInt ≤ 100000 by omega), rσ122⟩ ?_
            show ((wt_gf σ122 108 2).toInt - (wt_gf σ122 108 4).toInt).toNat < ((wt_gf z47.2 108 2).toInt - (wt_gf z47.2 108 4).toInt).toNat
            omega
          · skip
            have c129 := wt_ncle h120
            unfold wp_md_number_B91
            obtain ⟨σ130, eσ130⟩ : ∃ z : wt_St, z = wt_sf z47.2 108 4 ((wt_gf z47.2 108 4) + (1 : Int32)) := ⟨_, rfl⟩
            rw [← eσ130]
            have fσ130 := wt_fr_sf eσ130
            have vσ130 := wt_ceq (wt_v_sf eσ130)
            have j131b := wt_bd ((wt_gf z47.2 108 4) + (1 : Int32))
            have j131a : ((wt_gf z47.2 108 4) + (1 : Int32)).toInt = (wt_gf z47.2 108 4).toInt + ((1 : Int32)).toInt := wt_addE (by first | with_reducible assumption | omega) (by first | with_reducible assumption | omega)
            have rσ130 := wt_Rm2 l52 eσ130 (show 0 ≤ ((wt_gf z47.2 108 4) + (1 : Int32)).toInt by omega) (show ((wt_gf z47.2 108 4) + (1 : Int32)).toInt ≤ 500 by omega)
            have g133 : 0 ≤ (wt_gf σ130 108 2).toInt ∧ (wt_gf σ130 108 2).toInt ≤ 500 := wt_Rf1 rσ130
            have tt134 : (wt_gf σ130 108 2).toInt = (wt_gf z47.2 108 2).toInt := congrArg Int32.toInt (fσ130.1 108 2 (by (try dsimp only); omega))
            have g136 : 0 ≤ (wt_gf σ130 108 4).toInt ∧ (wt_gf σ130 108 4).toInt ≤ 500 := wt_Rf2 rσ130
            refine hKK46 _ ⟨(wt_fr.tr (wt_fr.tr wt_fr.rf l49 (fun i k h => by (try dsimp only at h); exact (by first | exact h | omega)) (fun i h => h.elim)) fσ130 (fun i k h => by (try dsimp only at h); exact (by first | exact h | omega)) (fun i h => h.elim)), (show 0 ≤ (100000 : Int32).toInt by omega), (show (100000 : Int32).toInt ≤ 100000 by omega), rσ130⟩ ?_
            show ((wt_gf σ130 108 2).toInt - (wt_gf σ130 108 4).toInt).toNat < ((wt_gf z47.2 108 2).toInt - (wt_gf z47.2 108 4).toInt).toNat
            omega
      · skip
        have g138 : 0 ≤ (wt_gf r39 108 2).toInt ∧ (wt_gf r39 108 2).toInt ≤ 500 := wt_Rf1 ri42
        have tt139 : (wt_gf r39 108 2).toInt = (wt_gf r8 108 2).toInt := congrArg Int32.toInt (f41.1 108 2 (by (try dsimp only); omega))
        have g141 : 0 ≤ (wt_gf r39 108 4).toInt ∧ (wt_gf r39 108 4).toInt ≤ 500 := wt_Rf2 ri42
        have tt142 : (wt_gf r39 108 4).toInt = (wt_gf r8 108 4).toInt := congrArg Int32.toInt (f41.1 108 4 (by (try dsimp only); omega))
        exact ⟨wt_fr.rf, (show 0 ≤ (0 : Int32).toInt by omega), (show (0 : Int32).toInt ≤ 100000 by omega), ri42⟩
      · skip
        have g144 : 0 ≤ (wt_gf r39 108 2).toInt ∧ (wt_gf r39 108 2).toInt ≤ 500 := wt_Rf1 ri42
        have tt145 : (wt_gf r39 108 2).toInt = (wt_gf r8 108 2).toInt := congrArg Int32.toInt (f41.1 108 2 (by (try dsimp only); omega))
        have g147 : 0 ≤ (wt_gf r39 108 4).toInt ∧ (wt_gf r39 108 4).toInt ≤ 500 := wt_Rf2 ri42
        have tt148 : (wt_gf r39 108 4).toInt = (wt_gf r8 108 4).toInt := congrArg Int32.toInt (f41.1 108 4 (by (try dsimp only); omega))
        show ((wt_gf r39 108 2).toInt - (wt_gf r39 108 4).toInt).toNat < n
        omega
    · skip
      have c149 := wt_nceq h36
      refine wt_T_it (fun s : Int32 × wt_St => wt_fr (fun i k => (i = 108 ∧ k = 4)) (fun i => False) r8 s.2 ∧ 0 ≤ s.1.toInt ∧ s.1.toInt ≤ 100000 ∧ wt_RI s.2) (fun s : Int32 × wt_St => ((wt_gf s.2 108 2).toInt - (wt_gf s.2 108 4).toInt).toNat) (fun KK150 z151 I152 hKK150 => ?_) _ _ ?_ ?_
      · skip
        obtain ⟨l153, l154, l155, l156⟩ := I152
        unfold wp_md_number_B44
        have g158 : 0 ≤ (wt_gf z151.2 108 2).toInt ∧ (wt_gf z151.2 108 2).toInt ≤ 500 := wt_Rf1 l156
        have tt159 : (wt_gf z151.2 108 2).toInt = (wt_gf r8 108 2).toInt := congrArg Int32.toInt (l153.1 108 2 (by (try dsimp only); omega))
        have g161 : 0 ≤ (wt_gf z151.2 108 4).toInt ∧ (wt_gf z151.2 108 4).toInt ≤ 500 := wt_Rf2 l156
        refine wt_T_bi (wq_md_byteAt n hn (wt_gf z151.2 108 4) z151.2 l156 (by first | with_reducible assumption | omega)) (fun r162 h163 => ?_)
        obtain ⟨e164, pp165⟩ := h163
        have bb166 := wt_bd r162.1
        rw [e164]
        have bb167 := wt_tn (wt_gf z151.2 108 4)
        have bb168 := wt_bd (wt_ga z151.2 109 (Int32.toNatClampNeg (wt_gf z151.2 108 4)))
        have tt169 : (wt_ga z151.2 109 (Int32.toNatClampNeg (wt_gf z151.2 108 4))).toInt = (wt_ga r8 109 (Int32.toNatClampNeg (wt_gf z151.2 108 4))).toInt := congrArg Int32.toInt (l153.2 109 (fun z => z) (Int32.toNatClampNeg (wt_gf z151.2 108 4)))
        have bb170 := wt_bd (wt_ga r8 109 (Int32.toNatClampNeg (wt_gf z151.2 108 4)))
        have tt171 : (wt_ga r8 109 (Int32.toNatClampNeg (wt_gf z151.2 108 4))).toInt = (wt_ga σ 109 (Int32.toNatClampNeg (wt_gf z151.2 108 4))).toInt := congrArg Int32.toInt (f10.2 109 (fun z => z) (Int32.toNatClampNeg (wt_gf z151.2 108 4)))
        have bb172 := wt_bd (wt_ga σ 109 (Int32.toNatClampNeg (wt_gf z151.2 108 4)))
        refine wt_T_bi (wq_md_isDigit n hn r162.1 z151.2 l156) (fun r173 h174 => ?_)
        obtain ⟨e175, pp176⟩ := h174
        have bb177 := wt_bd r173.1
        rw [e175]
        refine wt_T_if (fun h178 => ?_) (fun h178 => ?_)
        · skip
          have c179 := wt_ceq h178
          have bb180 := wt_bd z151.1
          refine wt_T_bi (wq_md_in n hn z151.1 x1 x2 z151.2 l156) (fun r181 h182 => ?_)
          obtain ⟨e183, pp184⟩ := h182
          have bb185 := wt_bd r181.1
          rw [e183]
          refine wt_T_if (fun h186 => ?_) (fun h186 => ?_)
          · skip
            have c187 := wt_ceq h186
            have k188 : (2 : Int32).toInt = 2 := by decide
            refine wt_T_bi (wq_md_wrong n hn (2 : Int32) (wt_gf r8 108 4) z151.2 l156 (by first | with_reducible assumption | omega) (by first | with_reducible assumption | omega)) (fun r189 h190 => ?_)
            obtain ⟨f191, ri192, pp193⟩ := h190
            have g195 : 0 ≤ (wt_gf r189 108 5).toInt ∧ (wt_gf r189 108 5).toInt ≤ 3 := wt_Rf3 ri192
            unfold wp_md_number_B122
            refine wt_T_if (fun h196 => ?_) (fun h196 => ?_)
            · skip
              have c197 := wt_ceq h196
              refine wt_T_some ?_
              exact ⟨(wt_fr.tr (wt_fr.tr (wt_fr.tr wt_fr.rf f10 (fun i k h => by (try dsimp only at h); exact Or.inl (by first | exact h | omega)) (fun i h => h.elim)) l153 (fun i k h => by (try dsimp only at h); exact Or.inl (by first | exact h | omega)) (fun i h => h.elim)) f191 (fun i k h => by (try dsimp only at h); rcases h with h | h; exact Or.inr (Or.inl (by first | exact h | omega)); exact Or.inr (Or.inr (by first | exact h | omega))) (fun i h => h.elim)), ri192, (show ((z151.1.toInt = 0 ∧ (wt_gf r189 108 5).toInt ≠ 0) ∨ ((wt_gf r189 108 5).toInt = 0 ∧ x1.toInt ≤ z151.1.toInt ∧ z151.1.toInt ≤ x2.toInt)) from by omega)⟩
            · skip
              have c198 := wt_nceq h196
              refine wt_T_some ?_
              exact ⟨(wt_fr.tr (wt_fr.tr (wt_fr.tr wt_fr.rf f10 (fun i k h => by (try dsimp only at h); exact Or.inl (by first | exact h | omega)) (fun i h => h.elim)) l153 (fun i k h => by (try dsimp only at h); exact Or.inl (by first | exact h | omega)) (fun i h => h.elim)) f191 (fun i k h => by (try dsimp only at h); rcases h with h | h; exact Or.inr (Or.inl (by first | exact h | omega)); exact Or.inr (Or.inr (by first | exact h | omega))) (fun i h => h.elim)), ri192, (show (((0 : Int32).toInt = 0 ∧ (wt_gf r189 108 5).toInt ≠ 0) ∨ ((wt_gf r189 108 5).toInt = 0 ∧ x1.toInt ≤ (0 : Int32).toInt ∧ (0 : Int32).toInt ≤ x2.toInt)) from by omega)⟩
          · skip
            have c199 := wt_nceq h186
            unfold wp_md_number_B122
            have g201 : 0 ≤ (wt_gf z151.2 108 5).toInt ∧ (wt_gf z151.2 108 5).toInt ≤ 3 := wt_Rf3 l156
            have tt202 : (wt_gf z151.2 108 5).toInt = (wt_gf r8 108 5).toInt := congrArg Int32.toInt (l153.1 108 5 (by (try dsimp only); omega))
            have tt205 : (wt_gf r8 108 5).toInt = (wt_gf σ 108 5).toInt := congrArg Int32.toInt (f10.1 108 5 (by (try dsimp only); omega))
            refine wt_T_if (fun h206 => ?_) (fun h206 => ?_)
            · skip
              have c207 := wt_ceq h206
              refine wt_T_some ?_
              exact ⟨(wt_fr.tr (wt_fr.tr wt_fr.rf f10 (fun i k h => by (try dsimp only at h); exact Or.inl (by first | exact h | omega)) (fun i h => h.elim)) l153 (fun i k h => by (try dsimp only at h); exact Or.inl (by first | exact h | omega)) (fun i h => h.elim)), l156, (show ((z151.1.toInt = 0 ∧ (wt_gf z151.2 108 5).toInt ≠ 0) ∨ ((wt_gf z151.2 108 5).toInt = 0 ∧ x1.toInt ≤ z151.1.toInt ∧ z151.1.toInt ≤ x2.toInt)) from by omega)⟩
            · skip
              have c208 := wt_nceq h206
              refine wt_T_some ?_
              exact ⟨(wt_fr.tr (wt_fr.tr wt_fr.rf f10 (fun i k h => by (try dsimp only at h); exact Or.inl (by first | exact h | omega)) (fun i h => h.elim)) l153 (fun i k h => by (try dsimp only at h); exact Or.inl (by first | exact h | omega)) (fun i h => h.elim)), l156, (show (((0 : Int32).toInt = 0 ∧ (wt_gf z151.2 108 5).toInt ≠ 0) ∨ ((wt_gf z151.2 108 5).toInt = 0 ∧ x1.toInt ≤ (0 : Int32).toInt ∧ (0 : Int32).toInt ≤ x2.toInt)) from by omega)⟩
        · skip
          have c209 := wt_nceq h178
          refine wt_T_bi (wq_md_byteAt n hn (wt_gf z151.2 108 4) z151.2 l156 (by first | with_reducible assumption | omega)) (fun r210 h211 => ?_)
          obtain ⟨e212, pp213⟩ := h211
          have bb214 := wt_bd r210.1
          rw [e212]
          have k215 : (10 : Int32).toInt = 10 := by decide
          have bb216 := wt_bd z151.1
          have j217b := wt_bd ((10 : Int32) * z151.1)
          have j217a : ((10 : Int32) * z151.1).toInt = 10 * (z151.1).toInt := wt_mulL (by decide) (by first | with_reducible assumption | omega) (by first | with_reducible assumption | omega)
          have j218b := wt_bd (((10 : Int32) * z151.1) + r210.1)
          have j218a : (((10 : Int32) * z151.1) + r210.1).toInt = ((10 : Int32) * z151.1).toInt + (r210.1).toInt := wt_addE (by first | with_reducible assumption | omega) (by first | with_reducible assumption | omega)
          have k219 : (48 : Int32).toInt = 48 := by decide
          have j220b := wt_bd ((((10 : Int32) * z151.1) + r210.1) - (48 : Int32))
          have j220a : ((((10 : Int32) * z151.1) + r210.1) - (48 : Int32)).toInt = (((10 : Int32) * z151.1) + r210.1).toInt - ((48 : Int32)).toInt := wt_subE (by first | with_reducible assumption | omega) (by first | with_reducible assumption | omega)
          have k221 : (100000 : Int32).toInt = 100000 := by decide
          refine wt_T_if (fun h222 => ?_) (fun h222 => ?_)
          · skip
            have c223 := wt_cle h222
            unfold wp_md_number_B91
            obtain ⟨σ224, eσ224⟩ : ∃ z : wt_St, z = wt_sf z151.2 108 4 ((wt_gf z151.2 108 4) + (1 : Int32)) := ⟨_, rfl⟩
            rw [← eσ224]
            have fσ224 := wt_fr_sf eσ224
            have vσ224 := wt_ceq (wt_v_sf eσ224)
            have k225 : (1 : Int32).toInt = 1 := by decide
            have j226b := wt_bd ((wt_gf z151.2 108 4) + (1 : Int32))
            have j226a : ((wt_gf z151.2 108 4) + (1 : Int32)).toInt = (wt_gf z151.2 108 4).toInt + ((1 : Int32)).toInt := wt_addE (by first | with_reducible assumption | omega) (by first | with_reducible assumption | omega)
            have rσ224 := wt_Rm2 l156 eσ224 (show 0 ≤ ((wt_gf z151.2 108 4) + (1 : Int32)).toInt by omega) (show ((wt_gf z151.2 108 4) + (1 : Int32)).toInt ≤ 500 by omega)
            have g228 : 0 ≤ (wt_gf σ224 108 2).toInt ∧ (wt_gf σ224 108 2).toInt ≤ 500 := wt_Rf1 rσ224
            have tt229 : (wt_gf σ224 108 2).toInt = (wt_gf z151.2 108 2).toInt := congrArg Int32.toInt (fσ224.1 108 2 (by (try dsimp only); omega))
            have g231 : 0 ≤ (wt_gf σ224 108 4).toInt ∧ (wt_gf σ224 108 4).toInt ≤ 500 := wt_Rf2 rσ224
            refine hKK150 _ ⟨(wt_fr.tr (wt_fr.tr wt_fr.rf l153 (fun i k h => by (try dsimp only at h); exact (by first | exact h | omega)) (fun i h => h.elim)) fσ224 (fun i k h => by (try dsimp only at h); exact (by first | exact h | omega)) (fun i h => h.elim)), (show 0 ≤ ((((10 : Int32) * z151.1) + r210.1) - (48 : Int32)).toInt by omega), (show ((((10 : Int32) * z151.1) + r210.1) - (48 : Int32)).toInt ≤ 100000 by omega), rσ224⟩ ?_
            show ((wt_gf σ224 108 2).toInt - (wt_gf σ224 108 4).toInt).toNat < ((wt_gf z151.2 108 2).toInt - (wt_gf z151.2 108 4).toInt).toNat
            omega
          · skip
            have c232 := wt_ncle h222
            unfold wp_md_number_B91
            obtain ⟨σ233, eσ233⟩ : ∃ z : wt_St, z = wt_sf z151.2 108 4 ((wt_gf z151.2 108 4) + (1 : Int32)) := ⟨_, rfl⟩
            rw [← eσ233]
            have fσ233 := wt_fr_sf eσ233
            have vσ233 := wt_ceq (wt_v_sf eσ233)
            have k234 : (1 : Int32).toInt = 1 := by decide
            have j235b := wt_bd ((wt_gf z151.2 108 4) + (1 : Int32))
            have j235a : ((wt_gf z151.2 108 4) + (1 : Int32)).toInt = (wt_gf z151.2 108 4).toInt + ((1 : Int32)).toInt := wt_addE (by first | with_reducible assumption | omega) (by first | with_reducible assumption | omega)
            have rσ233 := wt_Rm2 l156 eσ233 (show 0 ≤ ((wt_gf z151.2 108 4) + (1 : Int32)).toInt by omega) (show ((wt_gf z151.2 108 4) + (1 : Int32)).toInt ≤ 500 by omega)
            have g237 : 0 ≤ (wt_gf σ233 108 2).toInt ∧ (wt_gf σ233 108 2).toInt ≤ 500 := wt_Rf1 rσ233
            have tt238 : (wt_gf σ233 108 2).toInt = (wt_gf z151.2 108 2).toInt := congrArg Int32.toInt (fσ233.1 108 2 (by (try dsimp only); omega))
            have g240 : 0 ≤ (wt_gf σ233 108 4).toInt ∧ (wt_gf σ233 108 4).toInt ≤ 500 := wt_Rf2 rσ233
            refine hKK150 _ ⟨(wt_fr.tr (wt_fr.tr wt_fr.rf l153 (fun i k h => by (try dsimp only at h); exact (by first | exact h | omega)) (fun i h => h.elim)) fσ233 (fun i k h => by (try dsimp only at h); exact (by first | exact h | omega)) (fun i h => h.elim)), (show 0 ≤ (100000 : Int32).toInt by omega), (show (100000 : Int32).toInt ≤ 100000 by omega), rσ233⟩ ?_
            show ((wt_gf σ233 108 2).toInt - (wt_gf σ233 108 4).toInt).toNat < ((wt_gf z151.2 108 2).toInt - (wt_gf z151.2 108 4).toInt).toNat
            omega
      · skip
        exact ⟨wt_fr.rf, (show 0 ≤ (0 : Int32).toInt by omega), (show (0 : Int32).toInt ≤ 100000 by omega), ri11⟩
      · skip
        show ((wt_gf r8 108 2).toInt - (wt_gf r8 108 4).toInt).toNat < n
        omega
  · skip
    have c241 := wt_nceq h6
    refine wt_T_some ?_
    exact ⟨wt_fr.rf, r0, (show (((0 : Int32).toInt = 0 ∧ (wt_gf σ 108 5).toInt ≠ 0) ∨ ((wt_gf σ 108 5).toInt = 0 ∧ x1.toInt ≤ (0 : Int32).toInt ∧ (0 : Int32).toInt ≤ x2.toInt)) from by omega)⟩
set_option maxRecDepth 100000 in
set_option maxHeartbeats 4000000 in
theorem wq_md_pieces_110_120 (n : Nat) (hn : 4294967297 < n) (σ : wt_St) (r0 : wt_RI σ) : wt_T (wp_md_pieces n 110 120 σ) (fun q => wt_fr (fun i k => (i = 108 ∧ k = 4) ∨ (i = 108 ∧ k = 5) ∨ (i = 108 ∧ k = 6)) (fun i => i = 120 ∨ i = 110) σ q ∧ wt_RI q) := by
  have hl110 : wt_ln 110 = 26 := by decide
  have hl112 : wt_ln 112 = 26 := by decide
  have hl120 : wt_ln 120 = 338 := by decide
  have hl122 : wt_ln 122 = 338 := by decide
  unfold wp_md_pieces
  refine wt_T_bi (wq_md_letterHere n hn σ r0) (fun r1 h2 => ?_)
  obtain ⟨f3, ri4, pp5⟩ := h2
  have bb6 := wt_bd r1.1
  have bb7 := wt_ln_bd 110
  have k0 : (0 : Int32).toInt = 0 := by decide
  refine wt_T_gd (wt_ix (by first | with_reducible assumption | omega) (by first | with_reducible assumption | omega)) ?_
  have k8 : (1 : Int32).toInt = 1 := by decide
  have k9 : (12 : Int32).toInt = 12 := by decide
  have bb10 := wt_tn r1.1
  have g12 : 0 ≤ (wt_ga r1.2 110 (Int32.toNatClampNeg r1.1)).toInt ∧ (wt_ga r1.2 110 (Int32.toNatClampNeg r1.1)).toInt ≤ 12 := wt_Ra0 ri4 110 (by decide) (by decide) (Int32.toNatClampNeg r1.1)
  have tt13 : (wt_ga r1.2 110 (Int32.toNatClampNeg r1.1)).toInt = (wt_ga σ 110 (Int32.toNatClampNeg r1.1)).toInt := congrArg Int32.toInt (f3.2 110 (fun z => z) (Int32.toNatClampNeg r1.1))
  obtain ⟨j16, j16a, j16b⟩ := wt_subI (12 : Int32) (wt_ga r1.2 110 (Int32.toNatClampNeg r1.1))
  refine wt_T_bi (wq_md_number n hn (1 : Int32) ((12 : Int32) - (wt_ga r1.2 110 (Int32.toNatClampNeg r1.1))) r1.2 ri4 (by first | with_reducible assumption | omega)) (fun r17 h18 => ?_)
  obtain ⟨f19, ri20, pp21⟩ := h18
  have bb22 := wt_bd r17.1
  have g24 : 0 ≤ (wt_gf r17.2 108 5).toInt ∧ (wt_gf r17.2 108 5).toInt ≤ 3 := wt_Rf3 ri20
  have k25 : (400 : Int32).toInt = 400 := by decide
  refine wt_T_bi (wq_md_number n hn (1 : Int32) (400 : Int32) r17.2 ri20 (by first | with_reducible assumption | omega)) (fun r26 h27 => ?_)
  obtain ⟨f28, ri29, pp30⟩ := h27
  have bb31 := wt_bd r26.1
  have g33 : 0 ≤ (wt_gf r26.2 108 5).toInt ∧ (wt_gf r26.2 108 5).toInt ≤ 3 := wt_Rf3 ri29
  refine wt_T_it (fun s : Int32 × wt_St => wt_fr (fun i k => False) (fun i => i = 120 ∨ i = 110) r26.2 s.2 ∧ 0 ≤ (s.1).toInt ∧ ((wt_gf s.2 108 5).toInt ≠ 0 ∨ ((wt_ga s.2 110 (Int32.toNatClampNeg r1.1)).toInt + r17.1.toInt - s.1.toInt ≤ 12 ∧ 1 ≤ r26.1.toInt ∧ r26.1.toInt ≤ 400)) ∧ wt_RI s.2) (fun s : Int32 × wt_St => (r17.1.toInt - s.1.toInt + 0).toNat) (fun KK34 z35 I36 hKK34 => ?_) _ _ ?_ ?_
  · skip
    obtain ⟨l37, l38, l39, l40⟩ := I36
    unfold wp_md_pieces_B31
    have g42 : 0 ≤ (wt_gf z35.2 108 5).toInt ∧ (wt_gf z35.2 108 5).toInt ≤ 3 := wt_Rf3 l40
    have tt43 : (wt_gf z35.2 108 5).toInt = (wt_gf r26.2 108 5).toInt := congrArg Int32.toInt (l37.1 108 5 (fun z => z))
    have g45 : 0 ≤ (wt_ga z35.2 110 (Int32.toNatClampNeg r1.1)).toInt ∧ (wt_ga z35.2 110 (Int32.toNatClampNeg r1.1)).toInt ≤ 12 := wt_Ra0 l40 110 (by decide) (by decide) (Int32.toNatClampNeg r1.1)
    have bb46 := wt_bd z35.1
    refine wt_T_if (fun h47 => ?_) (fun h47 => ?_)
    · skip
      have c48 := wt_cle h47
      refine wt_T_some ?_
      exact ⟨(wt_fr.tr (wt_fr.tr (wt_fr.tr (wt_fr.tr wt_fr.rf f3 (fun i k h => by (try dsimp only at h); rcases h with h | h | h; exact Or.inl (by first | exact h | omega); exact Or.inr (Or.inl (by first | exact h | omega)); exact Or.inr (Or.inr (by first | exact h | omega))) (fun i h => h.elim)) f19 (fun i k h => by (try dsimp only at h); rcases h with h | h | h; exact Or.inl (by first | exact h | omega); exact Or.inr (Or.inl (by first | exact h | omega)); exact Or.inr (Or.inr (by first | exact h | omega))) (fun i h => h.elim)) f28 (fun i k h => by (try dsimp only at h); rcases h with h | h | h; exact Or.inl (by first | exact h | omega); exact Or.inr (Or.inl (by first | exact h | omega)); exact Or.inr (Or.inr (by first | exact h | omega))) (fun i h => h.elim)) l37 (fun i k h => h.elim) (fun i h => by (try dsimp only at h); rcases h with h | h; exact Or.inl (by first | exact h | omega); exact Or.inr (by first | exact h | omega))), l40⟩
    · skip
      have c49 := wt_ncle h47
      refine wt_T_if (fun h50 => ?_) (fun h50 => ?_)
      · skip
        have c51 := wt_ceq h50
        refine wt_T_gd (wt_ix (by first | with_reducible assumption | omega) (by first | with_reducible assumption | omega)) ?_
        refine wt_T_bi (wq_md_cell n hn r1.1 (wt_ga z35.2 110 (Int32.toNatClampNeg r1.1)) z35.2 l40 (by first | with_reducible assumption | omega) (by first | with_reducible assumption | omega) (by first | with_reducible assumption | omega) (by first | with_reducible assumption | omega)) (fun r52 h53 => ?_)
        obtain ⟨e54, pp55⟩ := h53
        have bb56 := wt_bd r52.1
        rw [e54]
        have bb57 := wt_ln_bd 120
        refine wt_T_gd (wt_ix (by first | with_reducible assumption | omega) (by first | with_reducible assumption | omega)) ?_
        refine wt_T_gd (wt_ix (by first | with_reducible assumption | omega) (by first | with_reducible assumption | omega)) ?_
        refine wt_T_gd (wt_ix (by first | with_reducible assumption | omega) (by first | with_reducible assumption | omega)) ?_
        obtain ⟨σ58, eσ58⟩ : ∃ z : wt_St, z = wt_sa z35.2 120 (Int32.toNatClampNeg r52.1) r26.1 := ⟨_, rfl⟩
        rw [← eσ58]
        have fσ58 := wt_fr_sa eσ58
        have vσ58 := wt_ceq (wt_v_sa eσ58)
        have bb59 := wt_tn r52.1
        have rσ58 := wt_Rn3 l40 eσ58 (by decide) (by decide) (show 0 ≤ (r26.1).toInt by omega) (show (r26.1).toInt ≤ 400 by omega)
        obtain ⟨σ60, eσ60⟩ : ∃ z : wt_St, z = wt_sa σ58 110 (Int32.toNatClampNeg r1.1) ((wt_ga σ58 110 (Int32.toNatClampNeg r1.1)) + (1 : Int32)) := ⟨_, rfl⟩
        rw [← eσ60]
        have fσ60 := wt_fr_sa eσ60
        have vσ60 := wt_ceq (wt_v_sa eσ60)
        have g62 : 0 ≤ (wt_ga σ58 110 (Int32.toNatClampNeg r1.1)).toInt ∧ (wt_ga σ58 110 (Int32.toNatClampNeg r1.1)).toInt ≤ 12 := wt_Ra0 rσ58 110 (by decide) (by decide) (Int32.toNatClampNeg r1.1)
        have tt63 : (wt_ga σ58 110 (Int32.toNatClampNeg r1.1)).toInt = (wt_ga z35.2 110 (Int32.toNatClampNeg r1.1)).toInt := congrArg Int32.toInt (fσ58.2 110 (by (try dsimp only); omega) (Int32.toNatClampNeg r1.1))
        obtain ⟨j64, j64a, j64b⟩ := wt_addI (wt_ga σ58 110 (Int32.toNatClampNeg r1.1)) (1 : Int32)
        have rσ60 := wt_Rn0 rσ58 eσ60 (by decide) (by decide) (show 0 ≤ ((wt_ga σ58 110 (Int32.toNatClampNeg r1.1)) + (1 : Int32)).toInt by omega) (show ((wt_ga σ58 110 (Int32.toNatClampNeg r1.1)) + (1 : Int32)).toInt ≤ 12 by omega)
        obtain ⟨j65, j65a, j65b⟩ := wt_addI z35.1 (1 : Int32)
        have g67 : 0 ≤ (wt_gf σ60 108 5).toInt ∧ (wt_gf σ60 108 5).toInt ≤ 3 := wt_Rf3 rσ60
        have tt68 : (wt_gf σ60 108 5).toInt = (wt_gf σ58 108 5).toInt := congrArg Int32.toInt (fσ60.1 108 5 (fun z => z))
        have tt71 : (wt_gf σ58 108 5).toInt = (wt_gf z35.2 108 5).toInt := congrArg Int32.toInt (fσ58.1 108 5 (fun z => z))
        have g73 : 0 ≤ (wt_ga σ60 110 (Int32.toNatClampNeg r1.1)).toInt ∧ (wt_ga σ60 110 (Int32.toNatClampNeg r1.1)).toInt ≤ 12 := wt_Ra0 rσ60 110 (by decide) (by decide) (Int32.toNatClampNeg r1.1)
        refine hKK34 _ ⟨(wt_fr.tr (wt_fr.tr (wt_fr.tr wt_fr.rf l37 (fun i k h => h.elim) (fun i h => by (try dsimp only at h); rcases h with h | h; exact Or.inl (by first | exact h | omega); exact Or.inr (by first | exact h | omega))) fσ58 (fun i k h => h.elim) (fun i h => by (try dsimp only at h); exact Or.inl (by first | exact h | omega))) fσ60 (fun i k h => h.elim) (fun i h => by (try dsimp only at h); exact Or.inr (by first | exact h | omega))), (wt_nn (B := r17.1) (by first | with_reducible assumption | omega) (by first | with_reducible assumption | omega)), (show ((wt_gf σ60 108 5).toInt ≠ 0 ∨ ((wt_ga σ60 110 (Int32.toNatClampNeg r1.1)).toInt + r17.1.toInt - (z35.1 + (1 : Int32)).toInt ≤ 12 ∧ 1 ≤ r26.1.toInt ∧ r26.1.toInt ≤ 400)) by omega), rσ60⟩ ?_
        show (r17.1.toInt - (z35.1 + (1 : Int32)).toInt + 0).toNat < (r17.1.toInt - z35.1.toInt + 0).toNat
        exact wt_mu (by first | with_reducible assumption | omega) (by first | with_reducible assumption | omega)
      · skip
        have c74 := wt_nceq h50
        refine wt_T_some ?_
        exact ⟨(wt_fr.tr (wt_fr.tr (wt_fr.tr (wt_fr.tr wt_fr.rf f3 (fun i k h => by (try dsimp only at h); rcases h with h | h | h; exact Or.inl (by first | exact h | omega); exact Or.inr (Or.inl (by first | exact h | omega)); exact Or.inr (Or.inr (by first | exact h | omega))) (fun i h => h.elim)) f19 (fun i k h => by (try dsimp only at h); rcases h with h | h | h; exact Or.inl (by first | exact h | omega); exact Or.inr (Or.inl (by first | exact h | omega)); exact Or.inr (Or.inr (by first | exact h | omega))) (fun i h => h.elim)) f28 (fun i k h => by (try dsimp only at h); rcases h with h | h | h; exact Or.inl (by first | exact h | omega); exact Or.inr (Or.inl (by first | exact h | omega)); exact Or.inr (Or.inr (by first | exact h | omega))) (fun i h => h.elim)) l37 (fun i k h => h.elim) (fun i h => by (try dsimp only at h); rcases h with h | h; exact Or.inl (by first | exact h | omega); exact Or.inr (by first | exact h | omega))), l40⟩
  · skip
    have g76 : 0 ≤ (wt_ga r26.2 110 (Int32.toNatClampNeg r1.1)).toInt ∧ (wt_ga r26.2 110 (Int32.toNatClampNeg r1.1)).toInt ≤ 12 := wt_Ra0 ri29 110 (by decide) (by decide) (Int32.toNatClampNeg r1.1)
    have tt77 : (wt_ga r26.2 110 (Int32.toNatClampNeg r1.1)).toInt = (wt_ga r17.2 110 (Int32.toNatClampNeg r1.1)).toInt := congrArg Int32.toInt (f28.2 110 (fun z => z) (Int32.toNatClampNeg r1.1))
    have tt80 : (wt_ga r17.2 110 (Int32.toNatClampNeg r1.1)).toInt = (wt_ga r1.2 110 (Int32.toNatClampNeg r1.1)).toInt := congrArg Int32.toInt (f19.2 110 (fun z => z) (Int32.toNatClampNeg r1.1))
    exact ⟨wt_fr.rf, (show 0 ≤ ((0 : Int32)).toInt by omega), (show ((wt_gf r26.2 108 5).toInt ≠ 0 ∨ ((wt_ga r26.2 110 (Int32.toNatClampNeg r1.1)).toInt + r17.1.toInt - (0 : Int32).toInt ≤ 12 ∧ 1 ≤ r26.1.toInt ∧ r26.1.toInt ≤ 400)) by omega), ri29⟩
  · skip
    show (r17.1.toInt - (0 : Int32).toInt + 0).toNat < n
    omega
set_option maxRecDepth 100000 in
set_option maxHeartbeats 4000000 in
theorem wq_md_pieces_112_122 (n : Nat) (hn : 4294967297 < n) (σ : wt_St) (r0 : wt_RI σ) : wt_T (wp_md_pieces n 112 122 σ) (fun q => wt_fr (fun i k => (i = 108 ∧ k = 4) ∨ (i = 108 ∧ k = 5) ∨ (i = 108 ∧ k = 6)) (fun i => i = 122 ∨ i = 112) σ q ∧ wt_RI q) := by
  have hl110 : wt_ln 110 = 26 := by decide
  have hl112 : wt_ln 112 = 26 := by decide
  have hl120 : wt_ln 120 = 338 := by decide
  have hl122 : wt_ln 122 = 338 := by decide
  unfold wp_md_pieces
  refine wt_T_bi (wq_md_letterHere n hn σ r0) (fun r1 h2 => ?_)
  obtain ⟨f3, ri4, pp5⟩ := h2
  have bb6 := wt_bd r1.1
  have bb7 := wt_ln_bd 112
  have k0 : (0 : Int32).toInt = 0 := by decide
  refine wt_T_gd (wt_ix (by first | with_reducible assumption | omega) (by first | with_reducible assumption | omega)) ?_
  have k8 : (1 : Int32).toInt = 1 := by decide
  have k9 : (12 : Int32).toInt = 12 := by decide
  have bb10 := wt_tn r1.1
  have g12 : 0 ≤ (wt_ga r1.2 112 (Int32.toNatClampNeg r1.1)).toInt ∧ (wt_ga r1.2 112 (Int32.toNatClampNeg r1.1)).toInt ≤ 12 := wt_Ra2 ri4 112 (by decide) (by decide) (Int32.toNatClampNeg r1.1)
  have tt13 : (wt_ga r1.2 112 (Int32.toNatClampNeg r1.1)).toInt = (wt_ga σ 112 (Int32.toNatClampNeg r1.1)).toInt := congrArg Int32.toInt (f3.2 112 (fun z => z) (Int32.toNatClampNeg r1.1))
  obtain ⟨j16, j16a, j16b⟩ := wt_subI (12 : Int32) (wt_ga r1.2 112 (Int32.toNatClampNeg r1.1))
  refine wt_T_bi (wq_md_number n hn (1 : Int32) ((12 : Int32) - (wt_ga r1.2 112 (Int32.toNatClampNeg r1.1))) r1.2 ri4 (by first | with_reducible assumption | omega)) (fun r17 h18 => ?_)
  obtain ⟨f19, ri20, pp21⟩ := h18
  have bb22 := wt_bd r17.1
  have g24 : 0 ≤ (wt_gf r17.2 108 5).toInt ∧ (wt_gf r17.2 108 5).toInt ≤ 3 := wt_Rf3 ri20
  have k25 : (400 : Int32).toInt = 400 := by decide
  refine wt_T_bi (wq_md_number n hn (1 : Int32) (400 : Int32) r17.2 ri20 (by first | with_reducible assumption | omega)) (fun r26 h27 => ?_)
  obtain ⟨f28, ri29, pp30⟩ := h27
  have bb31 := wt_bd r26.1
  have g33 : 0 ≤ (wt_gf r26.2 108 5).toInt ∧ (wt_gf r26.2 108 5).toInt ≤ 3 := wt_Rf3 ri29
  refine wt_T_it (fun s : Int32 × wt_St => wt_fr (fun i k => False) (fun i => i = 122 ∨ i = 112) r26.2 s.2 ∧ 0 ≤ (s.1).toInt ∧ ((wt_gf s.2 108 5).toInt ≠ 0 ∨ ((wt_ga s.2 112 (Int32.toNatClampNeg r1.1)).toInt + r17.1.toInt - s.1.toInt ≤ 12 ∧ 1 ≤ r26.1.toInt ∧ r26.1.toInt ≤ 400)) ∧ wt_RI s.2) (fun s : Int32 × wt_St => (r17.1.toInt - s.1.toInt + 0).toNat) (fun KK34 z35 I36 hKK34 => ?_) _ _ ?_ ?_
  · skip
    obtain ⟨l37, l38, l39, l40⟩ := I36
    unfold wp_md_pieces_B31
    have g42 : 0 ≤ (wt_gf z35.2 108 5).toInt ∧ (wt_gf z35.2 108 5).toInt ≤ 3 := wt_Rf3 l40
    have tt43 : (wt_gf z35.2 108 5).toInt = (wt_gf r26.2 108 5).toInt := congrArg Int32.toInt (l37.1 108 5 (fun z => z))
    have g45 : 0 ≤ (wt_ga z35.2 112 (Int32.toNatClampNeg r1.1)).toInt ∧ (wt_ga z35.2 112 (Int32.toNatClampNeg r1.1)).toInt ≤ 12 := wt_Ra2 l40 112 (by decide) (by decide) (Int32.toNatClampNeg r1.1)
    have bb46 := wt_bd z35.1
    refine wt_T_if (fun h47 => ?_) (fun h47 => ?_)
    · skip
      have c48 := wt_cle h47
      refine wt_T_some ?_
      exact ⟨(wt_fr.tr (wt_fr.tr (wt_fr.tr (wt_fr.tr wt_fr.rf f3 (fun i k h => by (try dsimp only at h); rcases h with h | h | h; exact Or.inl (by first | exact h | omega); exact Or.inr (Or.inl (by first | exact h | omega)); exact Or.inr (Or.inr (by first | exact h | omega))) (fun i h => h.elim)) f19 (fun i k h => by (try dsimp only at h); rcases h with h | h | h; exact Or.inl (by first | exact h | omega); exact Or.inr (Or.inl (by first | exact h | omega)); exact Or.inr (Or.inr (by first | exact h | omega))) (fun i h => h.elim)) f28 (fun i k h => by (try dsimp only at h); rcases h with h | h | h; exact Or.inl (by first | exact h | omega); exact Or.inr (Or.inl (by first | exact h | omega)); exact Or.inr (Or.inr (by first | exact h | omega))) (fun i h => h.elim)) l37 (fun i k h => h.elim) (fun i h => by (try dsimp only at h); rcases h with h | h; exact Or.inl (by first | exact h | omega); exact Or.inr (by first | exact h | omega))), l40⟩
    · skip
      have c49 := wt_ncle h47
      refine wt_T_if (fun h50 => ?_) (fun h50 => ?_)
      · skip
        have c51 := wt_ceq h50
        refine wt_T_gd (wt_ix (by first | with_reducible assumption | omega) (by first | with_reducible assumption | omega)) ?_
        refine wt_T_bi (wq_md_cell n hn r1.1 (wt_ga z35.2 112 (Int32.toNatClampNeg r1.1)) z35.2 l40 (by first | with_reducible assumption | omega) (by first | with_reducible assumption | omega) (by first | with_reducible assumption | omega) (by first | with_reducible assumption | omega)) (fun r52 h53 => ?_)
        obtain ⟨e54, pp55⟩ := h53
        have bb56 := wt_bd r52.1
        rw [e54]
        have bb57 := wt_ln_bd 122
        refine wt_T_gd (wt_ix (by first | with_reducible assumption | omega) (by first | with_reducible assumption | omega)) ?_
        refine wt_T_gd (wt_ix (by first | with_reducible assumption | omega) (by first | with_reducible assumption | omega)) ?_
        refine wt_T_gd (wt_ix (by first | with_reducible assumption | omega) (by first | with_reducible assumption | omega)) ?_
        obtain ⟨σ58, eσ58⟩ : ∃ z : wt_St, z = wt_sa z35.2 122 (Int32.toNatClampNeg r52.1) r26.1 := ⟨_, rfl⟩
        rw [← eσ58]
        have fσ58 := wt_fr_sa eσ58
        have vσ58 := wt_ceq (wt_v_sa eσ58)
        have bb59 := wt_tn r52.1
        have rσ58 := wt_Rn4 l40 eσ58 (by decide) (by decide) (show 0 ≤ (r26.1).toInt by omega) (show (r26.1).toInt ≤ 400 by omega)
        obtain ⟨σ60, eσ60⟩ : ∃ z : wt_St, z = wt_sa σ58 112 (Int32.toNatClampNeg r1.1) ((wt_ga σ58 112 (Int32.toNatClampNeg r1.1)) + (1 : Int32)) := ⟨_, rfl⟩
        rw [← eσ60]
        have fσ60 := wt_fr_sa eσ60
        have vσ60 := wt_ceq (wt_v_sa eσ60)
        have g62 : 0 ≤ (wt_ga σ58 112 (Int32.toNatClampNeg r1.1)).toInt ∧ (wt_ga σ58 112 (Int32.toNatClampNeg r1.1)).toInt ≤ 12 := wt_Ra2 rσ58 112 (by decide) (by decide) (Int32.toNatClampNeg r1.1)
        have tt63 : (wt_ga σ58 112 (Int32.toNatClampNeg r1.1)).toInt = (wt_ga z35.2 112 (Int32.toNatClampNeg r1.1)).toInt := congrArg Int32.toInt (fσ58.2 112 (by (try dsimp only); omega) (Int32.toNatClampNeg r1.1))
        obtain ⟨j64, j64a, j64b⟩ := wt_addI (wt_ga σ58 112 (Int32.toNatClampNeg r1.1)) (1 : Int32)
        have rσ60 := wt_Rn2 rσ58 eσ60 (by decide) (by decide) (show 0 ≤ ((wt_ga σ58 112 (Int32.toNatClampNeg r1.1)) + (1 : Int32)).toInt by omega) (show ((wt_ga σ58 112 (Int32.toNatClampNeg r1.1)) + (1 : Int32)).toInt ≤ 12 by omega)
        obtain ⟨j65, j65a, j65b⟩ := wt_addI z35.1 (1 : Int32)
        have g67 : 0 ≤ (wt_gf σ60 108 5).toInt ∧ (wt_gf σ60 108 5).toInt ≤ 3 := wt_Rf3 rσ60
        have tt68 : (wt_gf σ60 108 5).toInt = (wt_gf σ58 108 5).toInt := congrArg Int32.toInt (fσ60.1 108 5 (fun z => z))
        have tt71 : (wt_gf σ58 108 5).toInt = (wt_gf z35.2 108 5).toInt := congrArg Int32.toInt (fσ58.1 108 5 (fun z => z))
        have g73 : 0 ≤ (wt_ga σ60 112 (Int32.toNatClampNeg r1.1)).toInt ∧ (wt_ga σ60 112 (Int32.toNatClampNeg r1.1)).toInt ≤ 12 := wt_Ra2 rσ60 112 (by decide) (by decide) (Int32.toNatClampNeg r1.1)
        refine hKK34 _ ⟨(wt_fr.tr (wt_fr.tr (wt_fr.tr wt_fr.rf l37 (fun i k h => h.elim) (fun i h => by (try dsimp only at h); rcases h with h | h; exact Or.inl (by first | exact h | omega); exact Or.inr (by first | exact h | omega))) fσ58 (fun i k h => h.elim) (fun i h => by (try dsimp only at h); exact Or.inl (by first | exact h | omega))) fσ60 (fun i k h => h.elim) (fun i h => by (try dsimp only at h); exact Or.inr (by first | exact h | omega))), (wt_nn (B := r17.1) (by first | with_reducible assumption | omega) (by first | with_reducible assumption | omega)), (show ((wt_gf σ60 108 5).toInt ≠ 0 ∨ ((wt_ga σ60 112 (Int32.toNatClampNeg r1.1)).toInt + r17.1.toInt - (z35.1 + (1 : Int32)).toInt ≤ 12 ∧ 1 ≤ r26.1.toInt ∧ r26.1.toInt ≤ 400)) by omega), rσ60⟩ ?_
        show (r17.1.toInt - (z35.1 + (1 : Int32)).toInt + 0).toNat < (r17.1.toInt - z35.1.toInt + 0).toNat
        exact wt_mu (by first | with_reducible assumption | omega) (by first | with_reducible assumption | omega)
      · skip
        have c74 := wt_nceq h50
        refine wt_T_some ?_
        exact ⟨(wt_fr.tr (wt_fr.tr (wt_fr.tr (wt_fr.tr wt_fr.rf f3 (fun i k h => by (try dsimp only at h); rcases h with h | h | h; exact Or.inl (by first | exact h | omega); exact Or.inr (Or.inl (by first | exact h | omega)); exact Or.inr (Or.inr (by first | exact h | omega))) (fun i h => h.elim)) f19 (fun i k h => by (try dsimp only at h); rcases h with h | h | h; exact Or.inl (by first | exact h | omega); exact Or.inr (Or.inl (by first | exact h | omega)); exact Or.inr (Or.inr (by first | exact h | omega))) (fun i h => h.elim)) f28 (fun i k h => by (try dsimp only at h); rcases h with h | h | h; exact Or.inl (by first | exact h | omega); exact Or.inr (Or.inl (by first | exact h | omega)); exact Or.inr (Or.inr (by first | exact h | omega))) (fun i h => h.elim)) l37 (fun i k h => h.elim) (fun i h => by (try dsimp only at h); rcases h with h | h; exact Or.inl (by first | exact h | omega); exact Or.inr (by first | exact h | omega))), l40⟩
  · skip
    have g76 : 0 ≤ (wt_ga r26.2 112 (Int32.toNatClampNeg r1.1)).toInt ∧ (wt_ga r26.2 112 (Int32.toNatClampNeg r1.1)).toInt ≤ 12 := wt_Ra2 ri29 112 (by decide) (by decide) (Int32.toNatClampNeg r1.1)
    have tt77 : (wt_ga r26.2 112 (Int32.toNatClampNeg r1.1)).toInt = (wt_ga r17.2 112 (Int32.toNatClampNeg r1.1)).toInt := congrArg Int32.toInt (f28.2 112 (fun z => z) (Int32.toNatClampNeg r1.1))
    have tt80 : (wt_ga r17.2 112 (Int32.toNatClampNeg r1.1)).toInt = (wt_ga r1.2 112 (Int32.toNatClampNeg r1.1)).toInt := congrArg Int32.toInt (f19.2 112 (fun z => z) (Int32.toNatClampNeg r1.1))
    exact ⟨wt_fr.rf, (show 0 ≤ ((0 : Int32)).toInt by omega), (show ((wt_gf r26.2 108 5).toInt ≠ 0 ∨ ((wt_ga r26.2 112 (Int32.toNatClampNeg r1.1)).toInt + r17.1.toInt - (0 : Int32).toInt ≤ 12 ∧ 1 ≤ r26.1.toInt ∧ r26.1.toInt ≤ 400)) by omega), ri29⟩
  · skip
    show (r17.1.toInt - (0 : Int32).toInt + 0).toNat < n
    omega
set_option maxRecDepth 100000 in
set_option maxHeartbeats 4000000 in
theorem wq_md_pieces_110_122 (n : Nat) (hn : 4294967297 < n) (σ : wt_St) (r0 : wt_RI σ) : wt_T (wp_md_pieces n 110 122 σ) (fun q => wt_fr (fun i k => (i = 108 ∧ k = 4) ∨ (i = 108 ∧ k = 5) ∨ (i = 108 ∧ k = 6)) (fun i => i = 122 ∨ i = 110) σ q ∧ wt_RI q) := by
  have hl110 : wt_ln 110 = 26 := by decide
  have hl112 : wt_ln 112 = 26 := by decide
  have hl120 : wt_ln 120 = 338 := by decide
  have hl122 : wt_ln 122 = 338 := by decide
  unfold wp_md_pieces
  refine wt_T_bi (wq_md_letterHere n hn σ r0) (fun r1 h2 => ?_)
  obtain ⟨f3, ri4, pp5⟩ := h2
  have bb6 := wt_bd r1.1
  have bb7 := wt_ln_bd 110
  have k0 : (0 : Int32).toInt = 0 := by decide
  refine wt_T_gd (wt_ix (by first | with_reducible assumption | omega) (by first | with_reducible assumption | omega)) ?_
  have k8 : (1 : Int32).toInt = 1 := by decide
  have k9 : (12 : Int32).toInt = 12 := by decide
  have bb10 := wt_tn r1.1
  have g12 : 0 ≤ (wt_ga r1.2 110 (Int32.toNatClampNeg r1.1)).toInt ∧ (wt_ga r1.2 110 (Int32.toNatClampNeg r1.1)).toInt ≤ 12 := wt_Ra0 ri4 110 (by decide) (by decide) (Int32.toNatClampNeg r1.1)
  have tt13 : (wt_ga r1.2 110 (Int32.toNatClampNeg r1.1)).toInt = (wt_ga σ 110 (Int32.toNatClampNeg r1.1)).toInt := congrArg Int32.toInt (f3.2 110 (fun z => z) (Int32.toNatClampNeg r1.1))
  obtain ⟨j16, j16a, j16b⟩ := wt_subI (12 : Int32) (wt_ga r1.2 110 (Int32.toNatClampNeg r1.1))
  refine wt_T_bi (wq_md_number n hn (1 : Int32) ((12 : Int32) - (wt_ga r1.2 110 (Int32.toNatClampNeg r1.1))) r1.2 ri4 (by first | with_reducible assumption | omega)) (fun r17 h18 => ?_)
  obtain ⟨f19, ri20, pp21⟩ := h18
  have bb22 := wt_bd r17.1
  have g24 : 0 ≤ (wt_gf r17.2 108 5).toInt ∧ (wt_gf r17.2 108 5).toInt ≤ 3 := wt_Rf3 ri20
  have k25 : (400 : Int32).toInt = 400 := by decide
  refine wt_T_bi (wq_md_number n hn (1 : Int32) (400 : Int32) r17.2 ri20 (by first | with_reducible assumption | omega)) (fun r26 h27 => ?_)
  obtain ⟨f28, ri29, pp30⟩ := h27
  have bb31 := wt_bd r26.1
  have g33 : 0 ≤ (wt_gf r26.2 108 5).toInt ∧ (wt_gf r26.2 108 5).toInt ≤ 3 := wt_Rf3 ri29
  refine wt_T_it (fun s : Int32 × wt_St => wt_fr (fun i k => False) (fun i => i = 122 ∨ i = 110) r26.2 s.2 ∧ 0 ≤ (s.1).toInt ∧ ((wt_gf s.2 108 5).toInt ≠ 0 ∨ ((wt_ga s.2 110 (Int32.toNatClampNeg r1.1)).toInt + r17.1.toInt - s.1.toInt ≤ 12 ∧ 1 ≤ r26.1.toInt ∧ r26.1.toInt ≤ 400)) ∧ wt_RI s.2) (fun s : Int32 × wt_St => (r17.1.toInt - s.1.toInt + 0).toNat) (fun KK34 z35 I36 hKK34 => ?_) _ _ ?_ ?_
  · skip
    obtain ⟨l37, l38, l39, l40⟩ := I36
    unfold wp_md_pieces_B31
    have g42 : 0 ≤ (wt_gf z35.2 108 5).toInt ∧ (wt_gf z35.2 108 5).toInt ≤ 3 := wt_Rf3 l40
    have tt43 : (wt_gf z35.2 108 5).toInt = (wt_gf r26.2 108 5).toInt := congrArg Int32.toInt (l37.1 108 5 (fun z => z))
    have g45 : 0 ≤ (wt_ga z35.2 110 (Int32.toNatClampNeg r1.1)).toInt ∧ (wt_ga z35.2 110 (Int32.toNatClampNeg r1.1)).toInt ≤ 12 := wt_Ra0 l40 110 (by decide) (by decide) (Int32.toNatClampNeg r1.1)
    have bb46 := wt_bd z35.1
    refine wt_T_if (fun h47 => ?_) (fun h47 => ?_)
    · skip
      have c48 := wt_cle h47
      refine wt_T_some ?_
      exact ⟨(wt_fr.tr (wt_fr.tr (wt_fr.tr (wt_fr.tr wt_fr.rf f3 (fun i k h => by (try dsimp only at h); rcases h with h | h | h; exact Or.inl (by first | exact h | omega); exact Or.inr (Or.inl (by first | exact h | omega)); exact Or.inr (Or.inr (by first | exact h | omega))) (fun i h => h.elim)) f19 (fun i k h => by (try dsimp only at h); rcases h with h | h | h; exact Or.inl (by first | exact h | omega); exact Or.inr (Or.inl (by first | exact h | omega)); exact Or.inr (Or.inr (by first | exact h | omega))) (fun i h => h.elim)) f28 (fun i k h => by (try dsimp only at h); rcases h with h | h | h; exact Or.inl (by first | exact h | omega); exact Or.inr (Or.inl (by first | exact h | omega)); exact Or.inr (Or.inr (by first | exact h | omega))) (fun i h => h.elim)) l37 (fun i k h => h.elim) (fun i h => by (try dsimp only at h); rcases h with h | h; exact Or.inl (by first | exact h | omega); exact Or.inr (by first | exact h | omega))), l40⟩
    · skip
      have c49 := wt_ncle h47
      refine wt_T_if (fun h50 => ?_) (fun h50 => ?_)
      · skip
        have c51 := wt_ceq h50
        refine wt_T_gd (wt_ix (by first | with_reducible assumption | omega) (by first | with_reducible assumption | omega)) ?_
        refine wt_T_bi (wq_md_cell n hn r1.1 (wt_ga z35.2 110 (Int32.toNatClampNeg r1.1)) z35.2 l40 (by first | with_reducible assumption | omega) (by first | with_reducible assumption | omega) (by first | with_reducible assumption | omega) (by first | with_reducible assumption | omega)) (fun r52 h53 => ?_)
        obtain ⟨e54, pp55⟩ := h53
        have bb56 := wt_bd r52.1
        rw [e54]
        have bb57 := wt_ln_bd 122
        refine wt_T_gd (wt_ix (by first | with_reducible assumption | omega) (by first | with_reducible assumption | omega)) ?_
        refine wt_T_gd (wt_ix (by first | with_reducible assumption | omega) (by first | with_reducible assumption | omega)) ?_
        refine wt_T_gd (wt_ix (by first | with_reducible assumption | omega) (by first | with_reducible assumption | omega)) ?_
        obtain ⟨σ58, eσ58⟩ : ∃ z : wt_St, z = wt_sa z35.2 122 (Int32.toNatClampNeg r52.1) r26.1 := ⟨_, rfl⟩
        rw [← eσ58]
        have fσ58 := wt_fr_sa eσ58
        have vσ58 := wt_ceq (wt_v_sa eσ58)
        have bb59 := wt_tn r52.1
        have rσ58 := wt_Rn4 l40 eσ58 (by decide) (by decide) (show 0 ≤ (r26.1).toInt by omega) (show (r26.1).toInt ≤ 400 by omega)
        obtain ⟨σ60, eσ60⟩ : ∃ z : wt_St, z = wt_sa σ58 110 (Int32.toNatClampNeg r1.1) ((wt_ga σ58 110 (Int32.toNatClampNeg r1.1)) + (1 : Int32)) := ⟨_, rfl⟩
        rw [← eσ60]
        have fσ60 := wt_fr_sa eσ60
        have vσ60 := wt_ceq (wt_v_sa eσ60)
        have g62 : 0 ≤ (wt_ga σ58 110 (Int32.toNatClampNeg r1.1)).toInt ∧ (wt_ga σ58 110 (Int32.toNatClampNeg r1.1)).toInt ≤ 12 := wt_Ra0 rσ58 110 (by decide) (by decide) (Int32.toNatClampNeg r1.1)
        have tt63 : (wt_ga σ58 110 (Int32.toNatClampNeg r1.1)).toInt = (wt_ga z35.2 110 (Int32.toNatClampNeg r1.1)).toInt := congrArg Int32.toInt (fσ58.2 110 (by (try dsimp only); omega) (Int32.toNatClampNeg r1.1))
        obtain ⟨j64, j64a, j64b⟩ := wt_addI (wt_ga σ58 110 (Int32.toNatClampNeg r1.1)) (1 : Int32)
        have rσ60 := wt_Rn0 rσ58 eσ60 (by decide) (by decide) (show 0 ≤ ((wt_ga σ58 110 (Int32.toNatClampNeg r1.1)) + (1 : Int32)).toInt by omega) (show ((wt_ga σ58 110 (Int32.toNatClampNeg r1.1)) + (1 : Int32)).toInt ≤ 12 by omega)
        obtain ⟨j65, j65a, j65b⟩ := wt_addI z35.1 (1 : Int32)
        have g67 : 0 ≤ (wt_gf σ60 108 5).toInt ∧ (wt_gf σ60 108 5).toInt ≤ 3 := wt_Rf3 rσ60
        have tt68 : (wt_gf σ60 108 5).toInt = (wt_gf σ58 108 5).toInt := congrArg Int32.toInt (fσ60.1 108 5 (fun z => z))
        have tt71 : (wt_gf σ58 108 5).toInt = (wt_gf z35.2 108 5).toInt := congrArg Int32.toInt (fσ58.1 108 5 (fun z => z))
        have g73 : 0 ≤ (wt_ga σ60 110 (Int32.toNatClampNeg r1.1)).toInt ∧ (wt_ga σ60 110 (Int32.toNatClampNeg r1.1)).toInt ≤ 12 := wt_Ra0 rσ60 110 (by decide) (by decide) (Int32.toNatClampNeg r1.1)
        refine hKK34 _ ⟨(wt_fr.tr (wt_fr.tr (wt_fr.tr wt_fr.rf l37 (fun i k h => h.elim) (fun i h => by (try dsimp only at h); rcases h with h | h; exact Or.inl (by first | exact h | omega); exact Or.inr (by first | exact h | omega))) fσ58 (fun i k h => h.elim) (fun i h => by (try dsimp only at h); exact Or.inl (by first | exact h | omega))) fσ60 (fun i k h => h.elim) (fun i h => by (try dsimp only at h); exact Or.inr (by first | exact h | omega))), (wt_nn (B := r17.1) (by first | with_reducible assumption | omega) (by first | with_reducible assumption | omega)), (show ((wt_gf σ60 108 5).toInt ≠ 0 ∨ ((wt_ga σ60 110 (Int32.toNatClampNeg r1.1)).toInt + r17.1.toInt - (z35.1 + (1 : Int32)).toInt ≤ 12 ∧ 1 ≤ r26.1.toInt ∧ r26.1.toInt ≤ 400)) by omega), rσ60⟩ ?_
        show (r17.1.toInt - (z35.1 + (1 : Int32)).toInt + 0).toNat < (r17.1.toInt - z35.1.toInt + 0).toNat
        exact wt_mu (by first | with_reducible assumption | omega) (by first | with_reducible assumption | omega)
      · skip
        have c74 := wt_nceq h50
        refine wt_T_some ?_
        exact ⟨(wt_fr.tr (wt_fr.tr (wt_fr.tr (wt_fr.tr wt_fr.rf f3 (fun i k h => by (try dsimp only at h); rcases h with h | h | h; exact Or.inl (by first | exact h | omega); exact Or.inr (Or.inl (by first | exact h | omega)); exact Or.inr (Or.inr (by first | exact h | omega))) (fun i h => h.elim)) f19 (fun i k h => by (try dsimp only at h); rcases h with h | h | h; exact Or.inl (by first | exact h | omega); exact Or.inr (Or.inl (by first | exact h | omega)); exact Or.inr (Or.inr (by first | exact h | omega))) (fun i h => h.elim)) f28 (fun i k h => by (try dsimp only at h); rcases h with h | h | h; exact Or.inl (by first | exact h | omega); exact Or.inr (Or.inl (by first | exact h | omega)); exact Or.inr (Or.inr (by first | exact h | omega))) (fun i h => h.elim)) l37 (fun i k h => h.elim) (fun i h => by (try dsimp only at h); rcases h with h | h; exact Or.inl (by first | exact h | omega); exact Or.inr (by first | exact h | omega))), l40⟩
  · skip
    have g76 : 0 ≤ (wt_ga r26.2 110 (Int32.toNatClampNeg r1.1)).toInt ∧ (wt_ga r26.2 110 (Int32.toNatClampNeg r1.1)).toInt ≤ 12 := wt_Ra0 ri29 110 (by decide) (by decide) (Int32.toNatClampNeg r1.1)
    have tt77 : (wt_ga r26.2 110 (Int32.toNatClampNeg r1.1)).toInt = (wt_ga r17.2 110 (Int32.toNatClampNeg r1.1)).toInt := congrArg Int32.toInt (f28.2 110 (fun z => z) (Int32.toNatClampNeg r1.1))
    have tt80 : (wt_ga r17.2 110 (Int32.toNatClampNeg r1.1)).toInt = (wt_ga r1.2 110 (Int32.toNatClampNeg r1.1)).toInt := congrArg Int32.toInt (f19.2 110 (fun z => z) (Int32.toNatClampNeg r1.1))
    exact ⟨wt_fr.rf, (show 0 ≤ ((0 : Int32)).toInt by omega), (show ((wt_gf r26.2 108 5).toInt ≠ 0 ∨ ((wt_ga r26.2 110 (Int32.toNatClampNeg r1.1)).toInt + r17.1.toInt - (0 : Int32).toInt ≤ 12 ∧ 1 ≤ r26.1.toInt ∧ r26.1.toInt ≤ 400)) by omega), ri29⟩
  · skip
    show (r17.1.toInt - (0 : Int32).toInt + 0).toNat < n
    omega
set_option maxRecDepth 100000 in
set_option maxHeartbeats 4000000 in
theorem wq_md_pieces_112_120 (n : Nat) (hn : 4294967297 < n) (σ : wt_St) (r0 : wt_RI σ) : wt_T (wp_md_pieces n 112 120 σ) (fun q => wt_fr (fun i k => (i = 108 ∧ k = 4) ∨ (i = 108 ∧ k = 5) ∨ (i = 108 ∧ k = 6)) (fun i => i = 120 ∨ i = 112) σ q ∧ wt_RI q) := by
  have hl110 : wt_ln 110 = 26 := by decide
  have hl112 : wt_ln 112 = 26 := by decide
  have hl120 : wt_ln 120 = 338 := by decide
  have hl122 : wt_ln 122 = 338 := by decide
  unfold wp_md_pieces
  refine wt_T_bi (wq_md_letterHere n hn σ r0) (fun r1 h2 => ?_)
  obtain ⟨f3, ri4, pp5⟩ := h2
  have bb6 := wt_bd r1.1
  have bb7 := wt_ln_bd 112
  have k0 : (0 : Int32).toInt = 0 := by decide
  refine wt_T_gd (wt_ix (by first | with_reducible assumption | omega) (by first | with_reducible assumption | omega)) ?_
  have k8 : (1 : Int32).toInt = 1 := by decide
  have k9 : (12 : Int32).toInt = 12 := by decide
  have bb10 := wt_tn r1.1
  have g12 : 0 ≤ (wt_ga r1.2 112 (Int32.toNatClampNeg r1.1)).toInt ∧ (wt_ga r1.2 112 (Int32.toNatClampNeg r1.1)).toInt ≤ 12 := wt_Ra2 ri4 112 (by decide) (by decide) (Int32.toNatClampNeg r1.1)
  have tt13 : (wt_ga r1.2 112 (Int32.toNatClampNeg r1.1)).toInt = (wt_ga σ 112 (Int32.toNatClampNeg r1.1)).toInt := congrArg Int32.toInt (f3.2 112 (fun z => z) (Int32.toNatClampNeg r1.1))
  obtain ⟨j16, j16a, j16b⟩ := wt_subI (12 : Int32) (wt_ga r1.2 112 (Int32.toNatClampNeg r1.1))
  refine wt_T_bi (wq_md_number n hn (1 : Int32) ((12 : Int32) - (wt_ga r1.2 112 (Int32.toNatClampNeg r1.1))) r1.2 ri4 (by first | with_reducible assumption | omega)) (fun r17 h18 => ?_)
  obtain ⟨f19, ri20, pp21⟩ := h18
  have bb22 := wt_bd r17.1
  have g24 : 0 ≤ (wt_gf r17.2 108 5).toInt ∧ (wt_gf r17.2 108 5).toInt ≤ 3 := wt_Rf3 ri20
  have k25 : (400 : Int32).toInt = 400 := by decide
  refine wt_T_bi (wq_md_number n hn (1 : Int32) (400 : Int32) r17.2 ri20 (by first | with_reducible assumption | omega)) (fun r26 h27 => ?_)
  obtain ⟨f28, ri29, pp30⟩ := h27
  have bb31 := wt_bd r26.1
  have g33 : 0 ≤ (wt_gf r26.2 108 5).toInt ∧ (wt_gf r26.2 108 5).toInt ≤ 3 := wt_Rf3 ri29
  refine wt_T_it (fun s : Int32 × wt_St => wt_fr (fun i k => False) (fun i => i = 120 ∨ i = 112) r26.2 s.2 ∧ 0 ≤ (s.1).toInt ∧ ((wt_gf s.2 108 5).toInt ≠ 0 ∨ ((wt_ga s.2 112 (Int32.toNatClampNeg r1.1)).toInt + r17.1.toInt - s.1.toInt ≤ 12 ∧ 1 ≤ r26.1.toInt ∧ r26.1.toInt ≤ 400)) ∧ wt_RI s.2) (fun s : Int32 × wt_St => (r17.1.toInt - s.1.toInt + 0).toNat) (fun KK34 z35 I36 hKK34 => ?_) _ _ ?_ ?_
  · skip
    obtain ⟨l37, l38, l39, l40⟩ := I36
    unfold wp_md_pieces_B31
    have g42 : 0 ≤ (wt_gf z35.2 108 5).toInt ∧ (wt_gf z35.2 108 5).toInt ≤ 3 := wt_Rf3 l40
    have tt43 : (wt_gf z35.2 108 5).toInt = (wt_gf r26.2 108 5).toInt := congrArg Int32.toInt (l37.1 108 5 (fun z => z))
    have g45 : 0 ≤ (wt_ga z35.2 112 (Int32.toNatClampNeg r1.1)).toInt ∧ (wt_ga z35.2 112 (Int32.toNatClampNeg r1.1)).toInt ≤ 12 := wt_Ra2 l40 112 (by decide) (by decide) (Int32.toNatClampNeg r1.1)
    have bb46 := wt_bd z35.1
    refine wt_T_if (fun h47 => ?_) (fun h47 => ?_)
    · skip
      have c48 := wt_cle h47
      refine wt_T_some ?_
      exact ⟨(wt_fr.tr (wt_fr.tr (wt_fr.tr (wt_fr.tr wt_fr.rf f3 (fun i k h => by (try dsimp only at h); rcases h with h | h | h; exact Or.inl (by first | exact h | omega); exact Or.inr (Or.inl (by first | exact h | omega)); exact Or.inr (Or.inr (by first | exact h | omega))) (fun i h => h.elim)) f19 (fun i k h => by (try dsimp only at h); rcases h with h | h | h; exact Or.inl (by first | exact h | omega); exact Or.inr (Or.inl (by first | exact h | omega)); exact Or.inr (Or.inr (by first | exact h | omega))) (fun i h => h.elim)) f28 (fun i k h => by (try dsimp only at h); rcases h with h | h | h; exact Or.inl (by first | exact h | omega); exact Or.inr (Or.inl (by first | exact h | omega)); exact Or.inr (Or.inr (by first | exact h | omega))) (fun i h => h.elim)) l37 (fun i k h => h.elim) (fun i h => by (try dsimp only at h); rcases h with h | h; exact Or.inl (by first | exact h | omega); exact Or.inr (by first | exact h | omega))), l40⟩
    · skip
      have c49 := wt_ncle h47
      refine wt_T_if (fun h50 => ?_) (fun h50 => ?_)
      · skip
        have c51 := wt_ceq h50
        refine wt_T_gd (wt_ix (by first | with_reducible assumption | omega) (by first | with_reducible assumption | omega)) ?_
        refine wt_T_bi (wq_md_cell n hn r1.1 (wt_ga z35.2 112 (Int32.toNatClampNeg r1.1)) z35.2 l40 (by first | with_reducible assumption | omega) (by first | with_reducible assumption | omega) (by first | with_reducible assumption | omega) (by first | with_reducible assumption | omega)) (fun r52 h53 => ?_)
        obtain ⟨e54, pp55⟩ := h53
        have bb56 := wt_bd r52.1
        rw [e54]
        have bb57 := wt_ln_bd 120
        refine wt_T_gd (wt_ix (by first | with_reducible assumption | omega) (by first | with_reducible assumption | omega)) ?_
        refine wt_T_gd (wt_ix (by first | with_reducible assumption | omega) (by first | with_reducible assumption | omega)) ?_
        refine wt_T_gd (wt_ix (by first | with_reducible assumption | omega) (by first | with_reducible assumption | omega)) ?_
        obtain ⟨σ58, eσ58⟩ : ∃ z : wt_St, z = wt_sa z35.2 120 (Int32.toNatClampNeg r52.1) r26.1 := ⟨_, rfl⟩
        rw [← eσ58]
        have fσ58 := wt_fr_sa eσ58
        have vσ58 := wt_ceq (wt_v_sa eσ58)
        have bb59 := wt_tn r52.1
        have rσ58 := wt_Rn3 l40 eσ58 (by decide) (by decide) (show 0 ≤ (r26.1).toInt by omega) (show (r26.1).toInt ≤ 400 by omega)
        obtain ⟨σ60, eσ60⟩ : ∃ z : wt_St, z = wt_sa σ58 112 (Int32.toNatClampNeg r1.1) ((wt_ga σ58 112 (Int32.toNatClampNeg r1.1)) + (1 : Int32)) := ⟨_, rfl⟩
        rw [← eσ60]
        have fσ60 := wt_fr_sa eσ60
        have vσ60 := wt_ceq (wt_v_sa eσ60)
        have g62 : 0 ≤ (wt_ga σ58 112 (Int32.toNatClampNeg r1.1)).toInt ∧ (wt_ga σ58 112 (Int32.toNatClampNeg r1.1)).toInt ≤ 12 := wt_Ra2 rσ58 112 (by decide) (by decide) (Int32.toNatClampNeg r1.1)
        have tt63 : (wt_ga σ58 112 (Int32.toNatClampNeg r1.1)).toInt = (wt_ga z35.2 112 (Int32.toNatClampNeg r1.1)).toInt := congrArg Int32.toInt (fσ58.2 112 (by (try dsimp only); omega) (Int32.toNatClampNeg r1.1))
        obtain ⟨j64, j64a, j64b⟩ := wt_addI (wt_ga σ58 112 (Int32.toNatClampNeg r1.1)) (1 : Int32)
        have rσ60 := wt_Rn2 rσ58 eσ60 (by decide) (by decide) (show 0 ≤ ((wt_ga σ58 112 (Int32.toNatClampNeg r1.1)) + (1 : Int32)).toInt by omega) (show ((wt_ga σ58 112 (Int32.toNatClampNeg r1.1)) + (1 : Int32)).toInt ≤ 12 by omega)
        obtain ⟨j65, j65a, j65b⟩ := wt_addI z35.1 (1 : Int32)
        have g67 : 0 ≤ (wt_gf σ60 108 5).toInt ∧ (wt_gf σ60 108 5).toInt ≤ 3 := wt_Rf3 rσ60
        have tt68 : (wt_gf σ60 108 5).toInt = (wt_gf σ58 108 5).toInt := congrArg Int32.toInt (fσ60.1 108 5 (fun z => z))
        have tt71 : (wt_gf σ58 108 5).toInt = (wt_gf z35.2 108 5).toInt := congrArg Int32.toInt (fσ58.1 108 5 (fun z => z))
        have g73 : 0 ≤ (wt_ga σ60 112 (Int32.toNatClampNeg r1.1)).toInt ∧ (wt_ga σ60 112 (Int32.toNatClampNeg r1.1)).toInt ≤ 12 := wt_Ra2 rσ60 112 (by decide) (by decide) (Int32.toNatClampNeg r1.1)
        refine hKK34 _ ⟨(wt_fr.tr (wt_fr.tr (wt_fr.tr wt_fr.rf l37 (fun i k h => h.elim) (fun i h => by (try dsimp only at h); rcases h with h | h; exact Or.inl (by first | exact h | omega); exact Or.inr (by first | exact h | omega))) fσ58 (fun i k h => h.elim) (fun i h => by (try dsimp only at h); exact Or.inl (by first | exact h | omega))) fσ60 (fun i k h => h.elim) (fun i h => by (try dsimp only at h); exact Or.inr (by first | exact h | omega))), (wt_nn (B := r17.1) (by first | with_reducible assumption | omega) (by first | with_reducible assumption | omega)), (show ((wt_gf σ60 108 5).toInt ≠ 0 ∨ ((wt_ga σ60 112 (Int32.toNatClampNeg r1.1)).toInt + r17.1.toInt - (z35.1 + (1 : Int32)).toInt ≤ 12 ∧ 1 ≤ r26.1.toInt ∧ r26.1.toInt ≤ 400)) by omega), rσ60⟩ ?_
        show (r17.1.toInt - (z35.1 + (1 : Int32)).toInt + 0).toNat < (r17.1.toInt - z35.1.toInt + 0).toNat
        exact wt_mu (by first | with_reducible assumption | omega) (by first | with_reducible assumption | omega)
      · skip
        have c74 := wt_nceq h50
        refine wt_T_some ?_
        exact ⟨(wt_fr.tr (wt_fr.tr (wt_fr.tr (wt_fr.tr wt_fr.rf f3 (fun i k h => by (try dsimp only at h); rcases h with h | h | h; exact Or.inl (by first | exact h | omega); exact Or.inr (Or.inl (by first | exact h | omega)); exact Or.inr (Or.inr (by first | exact h | omega))) (fun i h => h.elim)) f19 (fun i k h => by (try dsimp only at h); rcases h with h | h | h; exact Or.inl (by first | exact h | omega); exact Or.inr (Or.inl (by first | exact h | omega)); exact Or.inr (Or.inr (by first | exact h | omega))) (fun i h => h.elim)) f28 (fun i k h => by (try dsimp only at h); rcases h with h | h | h; exact Or.inl (by first | exact h | omega); exact Or.inr (Or.inl (by first | exact h | omega)); exact Or.inr (Or.inr (by first | exact h | omega))) (fun i h => h.elim)) l37 (fun i k h => h.elim) (fun i h => by (try dsimp only at h); rcases h with h | h; exact Or.inl (by first | exact h | omega); exact Or.inr (by first | exact h | omega))), l40⟩
  · skip
    have g76 : 0 ≤ (wt_ga r26.2 112 (Int32.toNatClampNeg r1.1)).toInt ∧ (wt_ga r26.2 112 (Int32.toNatClampNeg r1.1)).toInt ≤ 12 := wt_Ra2 ri29 112 (by decide) (by decide) (Int32.toNatClampNeg r1.1)
    have tt77 : (wt_ga r26.2 112 (Int32.toNatClampNeg r1.1)).toInt = (wt_ga r17.2 112 (Int32.toNatClampNeg r1.1)).toInt := congrArg Int32.toInt (f28.2 112 (fun z => z) (Int32.toNatClampNeg r1.1))
    have tt80 : (wt_ga r17.2 112 (Int32.toNatClampNeg r1.1)).toInt = (wt_ga r1.2 112 (Int32.toNatClampNeg r1.1)).toInt := congrArg Int32.toInt (f19.2 112 (fun z => z) (Int32.toNatClampNeg r1.1))
    exact ⟨wt_fr.rf, (show 0 ≤ ((0 : Int32)).toInt by omega), (show ((wt_gf r26.2 108 5).toInt ≠ 0 ∨ ((wt_ga r26.2 112 (Int32.toNatClampNeg r1.1)).toInt + r17.1.toInt - (0 : Int32).toInt ≤ 12 ∧ 1 ≤ r26.1.toInt ∧ r26.1.toInt ≤ 400)) by omega), ri29⟩
  · skip
    show (r17.1.toInt - (0 : Int32).toInt + 0).toNat < n
    omega
set_option maxRecDepth 100000 in
set_option maxHeartbeats 4000000 in
theorem wq_md_six (n : Nat) (hn : 4294967297 < n) (x0 : Int32) (x1 : Int32) (x2 : Int32) (x3 : Int32) (x4 : Int32) (x5 : Int32) (σ : wt_St) (r0 : wt_RI σ) : wt_T (wp_md_six n x0 x1 x2 x3 x4 x5 σ) (fun q => q.2 = σ) := by
  have bb1 := wt_bd x0
  have bb2 := wt_bd x1
  have bb3 := wt_bd x2
  have bb4 := wt_bd x3
  have bb5 := wt_bd x4
  have bb6 := wt_bd x5
  unfold wp_md_six
  have k7 : (0 : Int32).toInt = 0 := by decide
  refine wt_T_if (fun h8 => ?_) (fun h8 => ?_)
  · skip
    have c9 := wt_ceq h8
    unfold wp_md_six_B36
    refine wt_T_if (fun h10 => ?_) (fun h10 => ?_)
    · skip
      have c11 := wt_ceq h10
      refine wt_T_some ?_
      exact rfl
    · skip
      have c12 := wt_nceq h10
      refine wt_T_some ?_
      exact rfl
  · skip
    have c13 := wt_nceq h8
    unfold wp_md_six_B36
    refine wt_T_if (fun h14 => ?_) (fun h14 => ?_)
    · skip
      have c15 := wt_ceq h14
      refine wt_T_some ?_
      exact rfl
    · skip
      have c16 := wt_nceq h14
      refine wt_T_some ?_
      exact rfl
set_option maxRecDepth 100000 in
set_option maxHeartbeats 4000000 in
theorem wq_md_clause_B179 (n : Nat) (hn : 4294967297 < n) (x2 : Int32) (σ : wt_St) (r0 : wt_RI σ) (p0 : (wt_gf σ 108 5).toInt ≠ 0 ∨ ((wt_gf σ 108 7).toInt < 60 ∧ 0 ≤ x2.toInt ∧ x2.toInt ≤ 5)) : wt_T (wp_md_clause_B179 n x2 σ) (fun q => wt_fr (fun i k => (i = 108 ∧ k = 4) ∨ (i = 108 ∧ k = 7) ∨ (i = 108 ∧ k = 5) ∨ (i = 108 ∧ k = 6) ∨ (i = 108 ∧ k = 24)) (fun i => i = 114 ∨ i = 116 ∨ i = 118 ∨ i = 120 ∨ i = 110 ∨ i = 122 ∨ i = 112) σ q ∧ wt_RI q ∧ ((wt_gf σ 108 7).toInt ≤ (wt_gf q 108 7).toInt ∧ ((wt_gf q 108 5).toInt ≠ 0 ∨ (wt_gf q 108 7).toInt = (wt_gf σ 108 7).toInt + 1))) := by
  have bb1 := wt_bd x2
  have g3 : 0 ≤ (wt_gf σ 108 5).toInt ∧ (wt_gf σ 108 5).toInt ≤ 3 := wt_Rf3 r0
  have g5 : 0 ≤ (wt_gf σ 108 7).toInt ∧ (wt_gf σ 108 7).toInt ≤ 60 := wt_Rf4 r0
  unfold wp_md_clause_B179
  have k6 : (0 : Int32).toInt = 0 := by decide
  refine wt_T_if (fun h7 => ?_) (fun h7 => ?_)
  · skip
    have c8 := wt_ceq h7
    refine wt_T_bi (wq_md_lettersHere n hn σ r0) (fun r9 h10 => ?_)
    obtain ⟨f11, ri12, pp13⟩ := h10
    have bb14 := wt_bd r9.1
    have g16 : 0 ≤ (wt_gf σ 108 4).toInt ∧ (wt_gf σ 108 4).toInt ≤ 500 := wt_Rf2 r0
    have g18 : 0 ≤ (wt_gf r9.2 108 4).toInt ∧ (wt_gf r9.2 108 4).toInt ≤ 500 := wt_Rf2 ri12
    have g20 : 0 ≤ (wt_gf r9.2 108 2).toInt ∧ (wt_gf r9.2 108 2).toInt ≤ 500 := wt_Rf1 ri12
    have tt21 : (wt_gf r9.2 108 2).toInt = (wt_gf σ 108 2).toInt := congrArg Int32.toInt (f11.1 108 2 (by (try dsimp only); omega))
    have k24 : (2 : Int32).toInt = 2 := by decide
    refine wt_T_if (fun h25 => ?_) (fun h25 => ?_)
    · skip
      have c26 := wt_cle h25
      refine wt_T_if (fun h27 => ?_) (fun h27 => ?_)
      · skip
        have c28 := wt_ceq h27
        obtain ⟨σ29, eσ29⟩ : ∃ z : wt_St, z = wt_sf r9.2 108 4 ((wt_gf σ 108 4) + r9.1) := ⟨_, rfl⟩
        rw [← eσ29]
        have fσ29 := wt_fr_sf eσ29
        have vσ29 := wt_ceq (wt_v_sf eσ29)
        obtain ⟨j30, j30a, j30b⟩ := wt_addI (wt_gf σ 108 4) r9.1
        have rσ29 := wt_Rm2 ri12 eσ29 (show 0 ≤ ((wt_gf σ 108 4) + r9.1).toInt by omega) (show ((wt_gf σ 108 4) + r9.1).toInt ≤ 500 by omega)
        obtain ⟨σ31, eσ31⟩ : ∃ z : wt_St, z = wt_sf σ29 108 7 ((wt_gf σ29 108 7) + (1 : Int32)) := ⟨_, rfl⟩
        rw [← eσ31]
        have fσ31 := wt_fr_sf eσ31
        have vσ31 := wt_ceq (wt_v_sf eσ31)
        have g33 : 0 ≤ (wt_gf σ29 108 7).toInt ∧ (wt_gf σ29 108 7).toInt ≤ 60 := wt_Rf4 rσ29
        have tt34 : (wt_gf σ29 108 7).toInt = (wt_gf r9.2 108 7).toInt := congrArg Int32.toInt (fσ29.1 108 7 (by (try dsimp only); omega))
        have tt37 : (wt_gf r9.2 108 7).toInt = (wt_gf σ 108 7).toInt := congrArg Int32.toInt (f11.1 108 7 (by (try dsimp only); omega))
        have k38 : (1 : Int32).toInt = 1 := by decide
        obtain ⟨j39, j39a, j39b⟩ := wt_addI (wt_gf σ29 108 7) (1 : Int32)
        have rσ31 := wt_Rm4 rσ29 eσ31 (show 0 ≤ ((wt_gf σ29 108 7) + (1 : Int32)).toInt by omega) (show ((wt_gf σ29 108 7) + (1 : Int32)).toInt ≤ 60 by omega)
        refine wt_T_bi (wq_md_letterHere n hn σ31 rσ31) (fun r40 h41 => ?_)
        obtain ⟨f42, ri43, pp44⟩ := h41
        have bb45 := wt_bd r40.1
        have k46 : (99 : Int32).toInt = 99 := by decide
        refine wt_T_bi (wq_md_number n hn (0 : Int32) (99 : Int32) r40.2 ri43 (by first | with_reducible assumption | omega)) (fun r47 h48 => ?_)
        obtain ⟨f49, ri50, pp51⟩ := h48
        have bb52 := wt_bd r47.1
        have g54 : 0 ≤ (wt_gf r47.2 108 5).toInt ∧ (wt_gf r47.2 108 5).toInt ≤ 3 := wt_Rf3 ri50
        refine wt_T_if (fun h55 => ?_) (fun h55 => ?_)
        · skip
          have c56 := wt_ceq h55
          refine wt_T_gd (wt_ix (by first | with_reducible assumption | omega) (by first | with_reducible assumption | omega)) ?_
          obtain ⟨σ57, eσ57⟩ : ∃ z : wt_St, z = wt_sa r47.2 114 (Int32.toNatClampNeg r40.1) r47.1 := ⟨_, rfl⟩
          rw [← eσ57]
          have fσ57 := wt_fr_sa eσ57
          have vσ57 := wt_ceq (wt_v_sa eσ57)
          have bb58 := wt_tn r40.1
          have rσ57 := wt_Rn18 ri50 eσ57 (by decide) (by decide) (show 0 ≤ (r47.1).toInt by omega) (show (r47.1).toInt ≤ 99 by omega)
          unfold wp_md_clause_B286
          unfold wp_md_clause_B377
          have k59 : (59 : Int32).toInt = 59 := by decide
          refine wt_T_bi (wq_md_closes n hn (59 : Int32) σ57 rσ57 (by first | with_reducible assumption | omega)) (fun r60 h61 => ?_)
          obtain ⟨f62, ri63, pp64⟩ := h61
          have g66 : 0 ≤ (wt_gf σ57 108 5).toInt ∧ (wt_gf σ57 108 5).toInt ≤ 3 := wt_Rf3 rσ57
          have tt67 : (wt_gf σ57 108 5).toInt = (wt_gf r47.2 108 5).toInt := congrArg Int32.toInt (fσ57.1 108 5 (fun z => z))
          have g69 : 0 ≤ (wt_gf r60 108 5).toInt ∧ (wt_gf r60 108 5).toInt ≤ 3 := wt_Rf3 ri63
          refine wt_T_some ?_
          have g71 : 0 ≤ (wt_gf r60 108 7).toInt ∧ (wt_gf r60 108 7).toInt ≤ 60 := wt_Rf4 ri63
          have tt72 : (wt_gf r60 108 7).toInt = (wt_gf σ57 108 7).toInt := congrArg Int32.toInt (f62.1 108 7 (by (try dsimp only); omega))
          have tt75 : (wt_gf σ57 108 7).toInt = (wt_gf r47.2 108 7).toInt := congrArg Int32.toInt (fσ57.1 108 7 (fun z => z))
          have tt78 : (wt_gf r47.2 108 7).toInt = (wt_gf r40.2 108 7).toInt := congrArg Int32.toInt (f49.1 108 7 (by (try dsimp only); omega))
          have tt81 : (wt_gf r40.2 108 7).toInt = (wt_gf σ31 108 7).toInt := congrArg Int32.toInt (f42.1 108 7 (by (try dsimp only); omega))
          exact ⟨(wt_fr.tr (wt_fr.tr (wt_fr.tr (wt_fr.tr (wt_fr.tr (wt_fr.tr (wt_fr.tr wt_fr.rf f11 (fun i k h => by (try dsimp only at h); exact Or.inl (by first | exact h | omega)) (fun i h => h.elim)) fσ29 (fun i k h => by (try dsimp only at h); exact Or.inl (by first | exact h | omega)) (fun i h => h.elim)) fσ31 (fun i k h => by (try dsimp only at h); exact Or.inr (Or.inl (by first | exact h | omega))) (fun i h => h.elim)) f42 (fun i k h => by (try dsimp only at h); rcases h with h | h | h; exact Or.inl (by first | exact h | omega); exact Or.inr (Or.inr (Or.inl (by first | exact h | omega))); exact Or.inr (Or.inr (Or.inr (Or.inl (by first | exact h | omega))))) (fun i h => h.elim)) f49 (fun i k h => by (try dsimp only at h); rcases h with h | h | h; exact Or.inl (by first | exact h | omega); exact Or.inr (Or.inr (Or.inl (by first | exact h | omega))); exact Or.inr (Or.inr (Or.inr (Or.inl (by first | exact h | omega))))) (fun i h => h.elim)) fσ57 (fun i k h => h.elim) (fun i h => by (try dsimp only at h); exact Or.inl (by first | exact h | omega))) f62 (fun i k h => by (try dsimp only at h); rcases h with h | h | h; exact Or.inl (by first | exact h | omega); exact Or.inr (Or.inr (Or.inl (by first | exact h | omega))); exact Or.inr (Or.inr (Or.inr (Or.inl (by first | exact h | omega))))) (fun i h => h.elim)), ri63, (show ((wt_gf σ 108 7).toInt ≤ (wt_gf r60 108 7).toInt ∧ ((wt_gf r60 108 5).toInt ≠ 0 ∨ (wt_gf r60 108 7).toInt = (wt_gf σ 108 7).toInt + 1)) from by omega)⟩
        · skip
          have c84 := wt_nceq h55
          unfold wp_md_clause_B286
          unfold wp_md_clause_B377
          have k85 : (59 : Int32).toInt = 59 := by decide
          refine wt_T_bi (wq_md_closes n hn (59 : Int32) r47.2 ri50 (by first | with_reducible assumption | omega)) (fun r86 h87 => ?_)
          obtain ⟨f88, ri89, pp90⟩ := h87
          have g92 : 0 ≤ (wt_gf r86 108 5).toInt ∧ (wt_gf r86 108 5).toInt ≤ 3 := wt_Rf3 ri89
          refine wt_T_some ?_
          have g94 : 0 ≤ (wt_gf r86 108 7).toInt ∧ (wt_gf r86 108 7).toInt ≤ 60 := wt_Rf4 ri89
          have tt95 : (wt_gf r86 108 7).toInt = (wt_gf r47.2 108 7).toInt := congrArg Int32.toInt (f88.1 108 7 (by (try dsimp only); omega))
          have tt98 : (wt_gf r47.2 108 7).toInt = (wt_gf r40.2 108 7).toInt := congrArg Int32.toInt (f49.1 108 7 (by (try dsimp only); omega))
          have tt101 : (wt_gf r40.2 108 7).toInt = (wt_gf σ31 108 7).toInt := congrArg Int32.toInt (f42.1 108 7 (by (try dsimp only); omega))
          exact ⟨(wt_fr.tr (wt_fr.tr (wt_fr.tr (wt_fr.tr (wt_fr.tr (wt_fr.tr wt_fr.rf f11 (fun i k h => by (try dsimp only at h); exact Or.inl (by first | exact h | omega)) (fun i h => h.elim)) fσ29 (fun i k h => by (try dsimp only at h); exact Or.inl (by first | exact h | omega)) (fun i h => h.elim)) fσ31 (fun i k h => by (try dsimp only at h); exact Or.inr (Or.inl (by first | exact h | omega))) (fun i h => h.elim)) f42 (fun i k h => by (try dsimp only at h); rcases h with h | h | h; exact Or.inl (by first | exact h | omega); exact Or.inr (Or.inr (Or.inl (by first | exact h | omega))); exact Or.inr (Or.inr (Or.inr (Or.inl (by first | exact h | omega))))) (fun i h => h.elim)) f49 (fun i k h => by (try dsimp only at h); rcases h with h | h | h; exact Or.inl (by first | exact h | omega); exact Or.inr (Or.inr (Or.inl (by first | exact h | omega))); exact Or.inr (Or.inr (Or.inr (Or.inl (by first | exact h | omega))))) (fun i h => h.elim)) f88 (fun i k h => by (try dsimp only at h); rcases h with h | h | h; exact Or.inl (by first | exact h | omega); exact Or.inr (Or.inr (Or.inl (by first | exact h | omega))); exact Or.inr (Or.inr (Or.inr (Or.inl (by first | exact h | omega))))) (fun i h => h.elim)), ri89, (show ((wt_gf σ 108 7).toInt ≤ (wt_gf r86 108 7).toInt ∧ ((wt_gf r86 108 5).toInt ≠ 0 ∨ (wt_gf r86 108 7).toInt = (wt_gf σ 108 7).toInt + 1)) from by omega)⟩
      · skip
        have c104 := wt_nceq h27
        have k105 : (3 : Int32).toInt = 3 := by decide
        refine wt_T_if (fun h106 => ?_) (fun h106 => ?_)
        · skip
          have c107 := wt_ceq h106
          obtain ⟨σ108, eσ108⟩ : ∃ z : wt_St, z = wt_sf r9.2 108 4 ((wt_gf σ 108 4) + r9.1) := ⟨_, rfl⟩
          rw [← eσ108]
          have fσ108 := wt_fr_sf eσ108
          have vσ108 := wt_ceq (wt_v_sf eσ108)
          obtain ⟨j109, j109a, j109b⟩ := wt_addI (wt_gf σ 108 4) r9.1
          have rσ108 := wt_Rm2 ri12 eσ108 (show 0 ≤ ((wt_gf σ 108 4) + r9.1).toInt by omega) (show ((wt_gf σ 108 4) + r9.1).toInt ≤ 500 by omega)
          obtain ⟨σ110, eσ110⟩ : ∃ z : wt_St, z = wt_sf σ108 108 7 ((wt_gf σ108 108 7) + (1 : Int32)) := ⟨_, rfl⟩
          rw [← eσ110]
          have fσ110 := wt_fr_sf eσ110
          have vσ110 := wt_ceq (wt_v_sf eσ110)
          have g112 : 0 ≤ (wt_gf σ108 108 7).toInt ∧ (wt_gf σ108 108 7).toInt ≤ 60 := wt_Rf4 rσ108
          have tt113 : (wt_gf σ108 108 7).toInt = (wt_gf r9.2 108 7).toInt := congrArg Int32.toInt (fσ108.1 108 7 (by (try dsimp only); omega))
          have tt116 : (wt_gf r9.2 108 7).toInt = (wt_gf σ 108 7).toInt := congrArg Int32.toInt (f11.1 108 7 (by (try dsimp only); omega))
          have k117 : (1 : Int32).toInt = 1 := by decide
          obtain ⟨j118, j118a, j118b⟩ := wt_addI (wt_gf σ108 108 7) (1 : Int32)
          have rσ110 := wt_Rm4 rσ108 eσ110 (show 0 ≤ ((wt_gf σ108 108 7) + (1 : Int32)).toInt by omega) (show ((wt_gf σ108 108 7) + (1 : Int32)).toInt ≤ 60 by omega)
          have k119 : (99 : Int32).toInt = 99 := by decide
          refine wt_T_bi (wq_md_number n hn (0 : Int32) (99 : Int32) σ110 rσ110 (by first | with_reducible assumption | omega)) (fun r120 h121 => ?_)
          obtain ⟨f122, ri123, pp124⟩ := h121
          have bb125 := wt_bd r120.1
          have g127 : 0 ≤ (wt_gf r120.2 108 5).toInt ∧ (wt_gf r120.2 108 5).toInt ≤ 3 := wt_Rf3 ri123
          obtain ⟨σ128, eσ128⟩ : ∃ z : wt_St, z = wt_sf r120.2 108 24 r120.1 := ⟨_, rfl⟩
          rw [← eσ128]
          have fσ128 := wt_fr_sf eσ128
          have vσ128 := wt_ceq (wt_v_sf eσ128)
          have rσ128 := wt_RI_fno ri123 eσ128 (Or.inr (by decide +kernel))
          unfold wp_md_clause_B377
          have k129 : (59 : Int32).toInt = 59 := by decide
          refine wt_T_bi (wq_md_closes n hn (59 : Int32) σ128 rσ128 (by first | with_reducible assumption | omega)) (fun r130 h131 => ?_)
          obtain ⟨f132, ri133, pp134⟩ := h131
          have g136 : 0 ≤ (wt_gf σ128 108 5).toInt ∧ (wt_gf σ128 108 5).toInt ≤ 3 := wt_Rf3 rσ128
          have tt137 : (wt_gf σ128 108 5).toInt = (wt_gf r120.2 108 5).toInt := congrArg Int32.toInt (fσ128.1 108 5 (by (try dsimp only); omega))
          have g139 : 0 ≤ (wt_gf r130 108 5).toInt ∧ (wt_gf r130 108 5).toInt ≤ 3 := wt_Rf3 ri133
          refine wt_T_some ?_
          have g141 : 0 ≤ (wt_gf r130 108 7).toInt ∧ (wt_gf r130 108 7).toInt ≤ 60 := wt_Rf4 ri133
          have tt142 : (wt_gf r130 108 7).toInt = (wt_gf σ128 108 7).toInt := congrArg Int32.toInt (f132.1 108 7 (by (try dsimp only); omega))
          have tt145 : (wt_gf σ128 108 7).toInt = (wt_gf r120.2 108 7).toInt := congrArg Int32.toInt (fσ128.1 108 7 (by (try dsimp only); omega))
          have tt148 : (wt_gf r120.2 108 7).toInt = (wt_gf σ110 108 7).toInt := congrArg Int32.toInt (f122.1 108 7 (by (try dsimp only); omega))
          exact ⟨(wt_fr.tr (wt_fr.tr (wt_fr.tr (wt_fr.tr (wt_fr.tr (wt_fr.tr wt_fr.rf f11 (fun i k h => by (try dsimp only at h); exact Or.inl (by first | exact h | omega)) (fun i h => h.elim)) fσ108 (fun i k h => by (try dsimp only at h); exact Or.inl (by first | exact h | omega)) (fun i h => h.elim)) fσ110 (fun i k h => by (try dsimp only at h); exact Or.inr (Or.inl (by first | exact h | omega))) (fun i h => h.elim)) f122 (fun i k h => by (try dsimp only at h); rcases h with h | h | h; exact Or.inl (by first | exact h | omega); exact Or.inr (Or.inr (Or.inl (by first | exact h | omega))); exact Or.inr (Or.inr (Or.inr (Or.inl (by first | exact h | omega))))) (fun i h => h.elim)) fσ128 (fun i k h => by (try dsimp only at h); exact Or.inr (Or.inr (Or.inr (Or.inr (by first | exact h | omega))))) (fun i h => h.elim)) f132 (fun i k h => by (try dsimp only at h); rcases h with h | h | h; exact Or.inl (by first | exact h | omega); exact Or.inr (Or.inr (Or.inl (by first | exact h | omega))); exact Or.inr (Or.inr (Or.inr (Or.inl (by first | exact h | omega))))) (fun i h => h.elim)), ri133, (show ((wt_gf σ 108 7).toInt ≤ (wt_gf r130 108 7).toInt ∧ ((wt_gf r130 108 5).toInt ≠ 0 ∨ (wt_gf r130 108 7).toInt = (wt_gf σ 108 7).toInt + 1)) from by omega)⟩
        · skip
          have c151 := wt_nceq h106
          have k152 : (4 : Int32).toInt = 4 := by decide
          refine wt_T_if (fun h153 => ?_) (fun h153 => ?_)
          · skip
            have c154 := wt_ceq h153
            obtain ⟨σ155, eσ155⟩ : ∃ z : wt_St, z = wt_sf r9.2 108 4 ((wt_gf σ 108 4) + r9.1) := ⟨_, rfl⟩
            rw [← eσ155]
            have fσ155 := wt_fr_sf eσ155
            have vσ155 := wt_ceq (wt_v_sf eσ155)
            obtain ⟨j156, j156a, j156b⟩ := wt_addI (wt_gf σ 108 4) r9.1
            have rσ155 := wt_Rm2 ri12 eσ155 (show 0 ≤ ((wt_gf σ 108 4) + r9.1).toInt by omega) (show ((wt_gf σ 108 4) + r9.1).toInt ≤ 500 by omega)
            obtain ⟨σ157, eσ157⟩ : ∃ z : wt_St, z = wt_sf σ155 108 7 ((wt_gf σ155 108 7) + (1 : Int32)) := ⟨_, rfl⟩
            rw [← eσ157]
            have fσ157 := wt_fr_sf eσ157
            have vσ157 := wt_ceq (wt_v_sf eσ157)
            have g159 : 0 ≤ (wt_gf σ155 108 7).toInt ∧ (wt_gf σ155 108 7).toInt ≤ 60 := wt_Rf4 rσ155
            have tt160 : (wt_gf σ155 108 7).toInt = (wt_gf r9.2 108 7).toInt := congrArg Int32.toInt (fσ155.1 108 7 (by (try dsimp only); omega))
            have tt163 : (wt_gf r9.2 108 7).toInt = (wt_gf σ 108 7).toInt := congrArg Int32.toInt (f11.1 108 7 (by (try dsimp only); omega))
            have k164 : (1 : Int32).toInt = 1 := by decide
            obtain ⟨j165, j165a, j165b⟩ := wt_addI (wt_gf σ155 108 7) (1 : Int32)
            have rσ157 := wt_Rm4 rσ155 eσ157 (show 0 ≤ ((wt_gf σ155 108 7) + (1 : Int32)).toInt by omega) (show ((wt_gf σ155 108 7) + (1 : Int32)).toInt ≤ 60 by omega)
            refine wt_T_bi (wq_md_letterHere n hn σ157 rσ157) (fun r166 h167 => ?_)
            obtain ⟨f168, ri169, pp170⟩ := h167
            have bb171 := wt_bd r166.1
            refine wt_T_bi (wq_md_letterHere n hn r166.2 ri169) (fun r172 h173 => ?_)
            obtain ⟨f174, ri175, pp176⟩ := h173
            have bb177 := wt_bd r172.1
            have g179 : 0 ≤ (wt_gf r172.2 108 5).toInt ∧ (wt_gf r172.2 108 5).toInt ≤ 3 := wt_Rf3 ri175
            refine wt_T_if (fun h180 => ?_) (fun h180 => ?_)
            · skip
              have c181 := wt_ceq h180
              refine wt_T_gd (wt_ix (by first | with_reducible assumption | omega) (by first | with_reducible assumption | omega)) ?_
              obtain ⟨σ182, eσ182⟩ : ∃ z : wt_St, z = wt_sa r172.2 116 (Int32.toNatClampNeg r166.1) r172.1 := ⟨_, rfl⟩
              rw [← eσ182]
              have fσ182 := wt_fr_sa eσ182
              have vσ182 := wt_ceq (wt_v_sa eσ182)
              have bb183 := wt_tn r166.1
              have rσ182 := wt_RI_no ri175 eσ182 116 117 (by decide +kernel) (by decide) (by decide)
              unfold wp_md_clause_B339
              unfold wp_md_clause_B377
              have k184 : (59 : Int32).toInt = 59 := by decide
              refine wt_T_bi (wq_md_closes n hn (59 : Int32) σ182 rσ182 (by first | with_reducible assumption | omega)) (fun r185 h186 => ?_)
              obtain ⟨f187, ri188, pp189⟩ := h186
              have g191 : 0 ≤ (wt_gf σ182 108 5).toInt ∧ (wt_gf σ182 108 5).toInt ≤ 3 := wt_Rf3 rσ182
              have tt192 : (wt_gf σ182 108 5).toInt = (wt_gf r172.2 108 5).toInt := congrArg Int32.toInt (fσ182.1 108 5 (fun z => z))
              have g194 : 0 ≤ (wt_gf r185 108 5).toInt ∧ (wt_gf r185 108 5).toInt ≤ 3 := wt_Rf3 ri188
              refine wt_T_some ?_
              have g196 : 0 ≤ (wt_gf r185 108 7).toInt ∧ (wt_gf r185 108 7).toInt ≤ 60 := wt_Rf4 ri188
              have tt197 : (wt_gf r185 108 7).toInt = (wt_gf σ182 108 7).toInt := congrArg Int32.toInt (f187.1 108 7 (by (try dsimp only); omega))
              have tt200 : (wt_gf σ182 108 7).toInt = (wt_gf r172.2 108 7).toInt := congrArg Int32.toInt (fσ182.1 108 7 (fun z => z))
              have tt203 : (wt_gf r172.2 108 7).toInt = (wt_gf r166.2 108 7).toInt := congrArg Int32.toInt (f174.1 108 7 (by (try dsimp only); omega))
              have tt206 : (wt_gf r166.2 108 7).toInt = (wt_gf σ157 108 7).toInt := congrArg Int32.toInt (f168.1 108 7 (by (try dsimp only); omega))
              exact ⟨(wt_fr.tr (wt_fr.tr (wt_fr.tr (wt_fr.tr (wt_fr.tr (wt_fr.tr (wt_fr.tr wt_fr.rf f11 (fun i k h => by (try dsimp only at h); exact Or.inl (by first | exact h | omega)) (fun i h => h.elim)) fσ155 (fun i k h => by (try dsimp only at h); exact Or.inl (by first | exact h | omega)) (fun i h => h.elim)) fσ157 (fun i k h => by (try dsimp only at h); exact Or.inr (Or.inl (by first | exact h | omega))) (fun i h => h.elim)) f168 (fun i k h => by (try dsimp only at h); rcases h with h | h | h; exact Or.inl (by first | exact h | omega); exact Or.inr (Or.inr (Or.inl (by first | exact h | omega))); exact Or.inr (Or.inr (Or.inr (Or.inl (by first | exact h | omega))))) (fun i h => h.elim)) f174 (fun i k h => by (try dsimp only at h); rcases h with h | h | h; exact Or.inl (by first | exact h | omega); exact Or.inr (Or.inr (Or.inl (by first | exact h | omega))); exact Or.inr (Or.inr (Or.inr (Or.inl (by first | exact h | omega))))) (fun i h => h.elim)) fσ182 (fun i k h => h.elim) (fun i h => by (try dsimp only at h); exact Or.inr (Or.inl (by first | exact h | omega)))) f187 (fun i k h => by (try dsimp only at h); rcases h with h | h | h; exact Or.inl (by first | exact h | omega); exact Or.inr (Or.inr (Or.inl (by first | exact h | omega))); exact Or.inr (Or.inr (Or.inr (Or.inl (by first | exact h | omega))))) (fun i h => h.elim)), ri188, (show ((wt_gf σ 108 7).toInt ≤ (wt_gf r185 108 7).toInt ∧ ((wt_gf r185 108 5).toInt ≠ 0 ∨ (wt_gf r185 108 7).toInt = (wt_gf σ 108 7).toInt + 1)) from by omega)⟩
            · skip
              have c209 := wt_nceq h180
              unfold wp_md_clause_B339
              unfold wp_md_clause_B377
              have k210 : (59 : Int32).toInt = 59 := by decide
              refine wt_T_bi (wq_md_closes n hn (59 : Int32) r172.2 ri175 (by first | with_reducible assumption | omega)) (fun r211 h212 => ?_)
              obtain ⟨f213, ri214, pp215⟩ := h212
              have g217 : 0 ≤ (wt_gf r211 108 5).toInt ∧ (wt_gf r211 108 5).toInt ≤ 3 := wt_Rf3 ri214
              refine wt_T_some ?_
              have g219 : 0 ≤ (wt_gf r211 108 7).toInt ∧ (wt_gf r211 108 7).toInt ≤ 60 := wt_Rf4 ri214
              have tt220 : (wt_gf r211 108 7).toInt = (wt_gf r172.2 108 7).toInt := congrArg Int32.toInt (f213.1 108 7 (by (try dsimp only); omega))
              have tt223 : (wt_gf r172.2 108 7).toInt = (wt_gf r166.2 108 7).toInt := congrArg Int32.toInt (f174.1 108 7 (by (try dsimp only); omega))
              have tt226 : (wt_gf r166.2 108 7).toInt = (wt_gf σ157 108 7).toInt := congrArg Int32.toInt (f168.1 108 7 (by (try dsimp only); omega))
              exact ⟨(wt_fr.tr (wt_fr.tr (wt_fr.tr (wt_fr.tr (wt_fr.tr (wt_fr.tr wt_fr.rf f11 (fun i k h => by (try dsimp only at h); exact Or.inl (by first | exact h | omega)) (fun i h => h.elim)) fσ155 (fun i k h => by (try dsimp only at h); exact Or.inl (by first | exact h | omega)) (fun i h => h.elim)) fσ157 (fun i k h => by (try dsimp only at h); exact Or.inr (Or.inl (by first | exact h | omega))) (fun i h => h.elim)) f168 (fun i k h => by (try dsimp only at h); rcases h with h | h | h; exact Or.inl (by first | exact h | omega); exact Or.inr (Or.inr (Or.inl (by first | exact h | omega))); exact Or.inr (Or.inr (Or.inr (Or.inl (by first | exact h | omega))))) (fun i h => h.elim)) f174 (fun i k h => by (try dsimp only at h); rcases h with h | h | h; exact Or.inl (by first | exact h | omega); exact Or.inr (Or.inr (Or.inl (by first | exact h | omega))); exact Or.inr (Or.inr (Or.inr (Or.inl (by first | exact h | omega))))) (fun i h => h.elim)) f213 (fun i k h => by (try dsimp only at h); rcases h with h | h | h; exact Or.inl (by first | exact h | omega); exact Or.inr (Or.inr (Or.inl (by first | exact h | omega))); exact Or.inr (Or.inr (Or.inr (Or.inl (by first | exact h | omega))))) (fun i h => h.elim)), ri214, (show ((wt_gf σ 108 7).toInt ≤ (wt_gf r211 108 7).toInt ∧ ((wt_gf r211 108 5).toInt ≠ 0 ∨ (wt_gf r211 108 7).toInt = (wt_gf σ 108 7).toInt + 1)) from by omega)⟩
          · skip
            have c229 := wt_nceq h153
            obtain ⟨σ230, eσ230⟩ : ∃ z : wt_St, z = wt_sf r9.2 108 4 ((wt_gf σ 108 4) + r9.1) := ⟨_, rfl⟩
            rw [← eσ230]
            have fσ230 := wt_fr_sf eσ230
            have vσ230 := wt_ceq (wt_v_sf eσ230)
            obtain ⟨j231, j231a, j231b⟩ := wt_addI (wt_gf σ 108 4) r9.1
            have rσ230 := wt_Rm2 ri12 eσ230 (show 0 ≤ ((wt_gf σ 108 4) + r9.1).toInt by omega) (show ((wt_gf σ 108 4) + r9.1).toInt ≤ 500 by omega)
            obtain ⟨σ232, eσ232⟩ : ∃ z : wt_St, z = wt_sf σ230 108 7 ((wt_gf σ230 108 7) + (1 : Int32)) := ⟨_, rfl⟩
            rw [← eσ232]
            have fσ232 := wt_fr_sf eσ232
            have vσ232 := wt_ceq (wt_v_sf eσ232)
            have g234 : 0 ≤ (wt_gf σ230 108 7).toInt ∧ (wt_gf σ230 108 7).toInt ≤ 60 := wt_Rf4 rσ230
            have tt235 : (wt_gf σ230 108 7).toInt = (wt_gf r9.2 108 7).toInt := congrArg Int32.toInt (fσ230.1 108 7 (by (try dsimp only); omega))
            have tt238 : (wt_gf r9.2 108 7).toInt = (wt_gf σ 108 7).toInt := congrArg Int32.toInt (f11.1 108 7 (by (try dsimp only); omega))
            have k239 : (1 : Int32).toInt = 1 := by decide
            obtain ⟨j240, j240a, j240b⟩ := wt_addI (wt_gf σ230 108 7) (1 : Int32)
            have rσ232 := wt_Rm4 rσ230 eσ232 (show 0 ≤ ((wt_gf σ230 108 7) + (1 : Int32)).toInt by omega) (show ((wt_gf σ230 108 7) + (1 : Int32)).toInt ≤ 60 by omega)
            refine wt_T_bi (wq_md_number n hn (0 : Int32) (3 : Int32) σ232 rσ232 (by first | with_reducible assumption | omega)) (fun r241 h242 => ?_)
            obtain ⟨f243, ri244, pp245⟩ := h242
            have bb246 := wt_bd r241.1
            have g248 : 0 ≤ (wt_gf r241.2 108 5).toInt ∧ (wt_gf r241.2 108 5).toInt ≤ 3 := wt_Rf3 ri244
            refine wt_T_bi (wq_md_number n hn (0 : Int32) (3 : Int32) r241.2 ri244 (by first | with_reducible assumption | omega)) (fun r249 h250 => ?_)
            obtain ⟨f251, ri252, pp253⟩ := h250
            have bb254 := wt_bd r249.1
            have g256 : 0 ≤ (wt_gf r249.2 108 5).toInt ∧ (wt_gf r249.2 108 5).toInt ≤ 3 := wt_Rf3 ri252
            refine wt_T_if (fun h257 => ?_) (fun h257 => ?_)
            · skip
              have c258 := wt_ceq h257
              refine wt_T_gd (wt_ix (by first | with_reducible assumption | omega) (by first | with_reducible assumption | omega)) ?_
              refine wt_T_gd (wt_ix (by first | with_reducible assumption | omega) (by first | with_reducible assumption | omega)) ?_
              obtain ⟨σ259, eσ259⟩ : ∃ z : wt_St, z = wt_sa r249.2 118 (Int32.toNatClampNeg r241.1) ((wt_ga r249.2 118 (Int32.toNatClampNeg r241.1)) ||| ((1 : Int32) <<< (r249.1 &&& 31))) := ⟨_, rfl⟩
              rw [← eσ259]
              have fσ259 := wt_fr_sa eσ259
              have vσ259 := wt_ceq (wt_v_sa eσ259)
              have bb260 := wt_tn r241.1
              have bb261 := wt_bd (wt_ga r249.2 118 (Int32.toNatClampNeg r241.1))
              have tt262 : (wt_ga r249.2 118 (Int32.toNatClampNeg r241.1)).toInt = (wt_ga r241.2 118 (Int32.toNatClampNeg r241.1)).toInt := congrArg Int32.toInt (f251.2 118 (fun z => z) (Int32.toNatClampNeg r241.1))
              have bb263 := wt_bd (wt_ga r241.2 118 (Int32.toNatClampNeg r241.1))
              have tt264 : (wt_ga r241.2 118 (Int32.toNatClampNeg r241.1)).toInt = (wt_ga σ232 118 (Int32.toNatClampNeg r241.1)).toInt := congrArg Int32.toInt (f243.2 118 (fun z => z) (Int32.toNatClampNeg r241.1))
              have bb265 := wt_bd (wt_ga σ232 118 (Int32.toNatClampNeg r241.1))
              have tt266 : (wt_ga σ232 118 (Int32.toNatClampNeg r241.1)).toInt = (wt_ga σ230 118 (Int32.toNatClampNeg r241.1)).toInt := congrArg Int32.toInt (fσ232.2 118 (fun z => z) (Int32.toNatClampNeg r241.1))
              have bb267 := wt_bd (wt_ga σ230 118 (Int32.toNatClampNeg r241.1))
              have tt268 : (wt_ga σ230 118 (Int32.toNatClampNeg r241.1)).toInt = (wt_ga r9.2 118 (Int32.toNatClampNeg r241.1)).toInt := congrArg Int32.toInt (fσ230.2 118 (fun z => z) (Int32.toNatClampNeg r241.1))
              have bb269 := wt_bd (wt_ga r9.2 118 (Int32.toNatClampNeg r241.1))
              have tt270 : (wt_ga r9.2 118 (Int32.toNatClampNeg r241.1)).toInt = (wt_ga σ 118 (Int32.toNatClampNeg r241.1)).toInt := congrArg Int32.toInt (f11.2 118 (fun z => z) (Int32.toNatClampNeg r241.1))
              have bb271 := wt_bd (wt_ga σ 118 (Int32.toNatClampNeg r241.1))
              have k272 : (31 : Int32).toInt = 31 := by decide
              have bb273 := wt_bd (r249.1 &&& 31)
              have bb274 := wt_bd ((1 : Int32) <<< (r249.1 &&& 31))
              have bb275 := wt_bd ((wt_ga r249.2 118 (Int32.toNatClampNeg r241.1)) ||| ((1 : Int32) <<< (r249.1 &&& 31)))
              have rσ259 := wt_RI_no ri252 eσ259 118 119 (by decide +kernel) (by decide) (by decide)
              unfold wp_md_clause_B377
              have k276 : (59 : Int32).toInt = 59 := by decide
              refine wt_T_bi (wq_md_closes n hn (59 : Int32) σ259 rσ259 (by first | with_reducible assumption | omega)) (fun r277 h278 => ?_)
              obtain ⟨f279, ri280, pp281⟩ := h278
              have g283 : 0 ≤ (wt_gf σ259 108 5).toInt ∧ (wt_gf σ259 108 5).toInt ≤ 3 := wt_Rf3 rσ259
              have tt284 : (wt_gf σ259 108 5).toInt = (wt_gf r249.2 108 5).toInt := congrArg Int32.toInt (fσ259.1 108 5 (fun z => z))
              have g286 : 0 ≤ (wt_gf r277 108 5).toInt ∧ (wt_gf r277 108 5).toInt ≤ 3 := wt_Rf3 ri280
              refine wt_T_some ?_
              have g288 : 0 ≤ (wt_gf r277 108 7).toInt ∧ (wt_gf r277 108 7).toInt ≤ 60 := wt_Rf4 ri280
              have tt289 : (wt_gf r277 108 7).toInt = (wt_gf σ259 108 7).toInt := congrArg Int32.toInt (f279.1 108 7 (by (try dsimp only); omega))
              have tt292 : (wt_gf σ259 108 7).toInt = (wt_gf r249.2 108 7).toInt := congrArg Int32.toInt (fσ259.1 108 7 (fun z => z))
              have tt295 : (wt_gf r249.2 108 7).toInt = (wt_gf r241.2 108 7).toInt := congrArg Int32.toInt (f251.1 108 7 (by (try dsimp only); omega))
              have tt298 : (wt_gf r241.2 108 7).toInt = (wt_gf σ232 108 7).toInt := congrArg Int32.toInt (f243.1 108 7 (by (try dsimp only); omega))
              exact ⟨(wt_fr.tr (wt_fr.tr (wt_fr.tr (wt_fr.tr (wt_fr.tr (wt_fr.tr (wt_fr.tr wt_fr.rf f11 (fun i k h => by (try dsimp only at h); exact Or.inl (by first | exact h | omega)) (fun i h => h.elim)) fσ230 (fun i k h => by (try dsimp only at h); exact Or.inl (by first | exact h | omega)) (fun i h => h.elim)) fσ232 (fun i k h => by (try dsimp only at h); exact Or.inr (Or.inl (by first | exact h | omega))) (fun i h => h.elim)) f243 (fun i k h => by (try dsimp only at h); rcases h with h | h | h; exact Or.inl (by first | exact h | omega); exact Or.inr (Or.inr (Or.inl (by first | exact h | omega))); exact Or.inr (Or.inr (Or.inr (Or.inl (by first | exact h | omega))))) (fun i h => h.elim)) f251 (fun i k h => by (try dsimp only at h); rcases h with h | h | h; exact Or.inl (by first | exact h | omega); exact Or.inr (Or.inr (Or.inl (by first | exact h | omega))); exact Or.inr (Or.inr (Or.inr (Or.inl (by first | exact h | omega))))) (fun i h => h.elim)) fσ259 (fun i k h => h.elim) (fun i h => by (try dsimp only at h); exact Or.inr (Or.inr (Or.inl (by first | exact h | omega))))) f279 (fun i k h => by (try dsimp only at h); rcases h with h | h | h; exact Or.inl (by first | exact h | omega); exact Or.inr (Or.inr (Or.inl (by first | exact h | omega))); exact Or.inr (Or.inr (Or.inr (Or.inl (by first | exact h | omega))))) (fun i h => h.elim)), ri280, (show ((wt_gf σ 108 7).toInt ≤ (wt_gf r277 108 7).toInt ∧ ((wt_gf r277 108 5).toInt ≠ 0 ∨ (wt_gf r277 108 7).toInt = (wt_gf σ 108 7).toInt + 1)) from by omega)⟩
            · skip
              have c301 := wt_nceq h257
              unfold wp_md_clause_B377
              have k302 : (59 : Int32).toInt = 59 := by decide
              refine wt_T_bi (wq_md_closes n hn (59 : Int32) r249.2 ri252 (by first | with_reducible assumption | omega)) (fun r303 h304 => ?_)
              obtain ⟨f305, ri306, pp307⟩ := h304
              have g309 : 0 ≤ (wt_gf r303 108 5).toInt ∧ (wt_gf r303 108 5).toInt ≤ 3 := wt_Rf3 ri306
              refine wt_T_some ?_
              have g311 : 0 ≤ (wt_gf r303 108 7).toInt ∧ (wt_gf r303 108 7).toInt ≤ 60 := wt_Rf4 ri306
              have tt312 : (wt_gf r303 108 7).toInt = (wt_gf r249.2 108 7).toInt := congrArg Int32.toInt (f305.1 108 7 (by (try dsimp only); omega))
              have tt315 : (wt_gf r249.2 108 7).toInt = (wt_gf r241.2 108 7).toInt := congrArg Int32.toInt (f251.1 108 7 (by (try dsimp only); omega))
              have tt318 : (wt_gf r241.2 108 7).toInt = (wt_gf σ232 108 7).toInt := congrArg Int32.toInt (f243.1 108 7 (by (try dsimp only); omega))
              exact ⟨(wt_fr.tr (wt_fr.tr (wt_fr.tr (wt_fr.tr (wt_fr.tr (wt_fr.tr wt_fr.rf f11 (fun i k h => by (try dsimp only at h); exact Or.inl (by first | exact h | omega)) (fun i h => h.elim)) fσ230 (fun i k h => by (try dsimp only at h); exact Or.inl (by first | exact h | omega)) (fun i h => h.elim)) fσ232 (fun i k h => by (try dsimp only at h); exact Or.inr (Or.inl (by first | exact h | omega))) (fun i h => h.elim)) f243 (fun i k h => by (try dsimp only at h); rcases h with h | h | h; exact Or.inl (by first | exact h | omega); exact Or.inr (Or.inr (Or.inl (by first | exact h | omega))); exact Or.inr (Or.inr (Or.inr (Or.inl (by first | exact h | omega))))) (fun i h => h.elim)) f251 (fun i k h => by (try dsimp only at h); rcases h with h | h | h; exact Or.inl (by first | exact h | omega); exact Or.inr (Or.inr (Or.inl (by first | exact h | omega))); exact Or.inr (Or.inr (Or.inr (Or.inl (by first | exact h | omega))))) (fun i h => h.elim)) f305 (fun i k h => by (try dsimp only at h); rcases h with h | h | h; exact Or.inl (by first | exact h | omega); exact Or.inr (Or.inr (Or.inl (by first | exact h | omega))); exact Or.inr (Or.inr (Or.inr (Or.inl (by first | exact h | omega))))) (fun i h => h.elim)), ri306, (show ((wt_gf σ 108 7).toInt ≤ (wt_gf r303 108 7).toInt ∧ ((wt_gf r303 108 5).toInt ≠ 0 ∨ (wt_gf r303 108 7).toInt = (wt_gf σ 108 7).toInt + 1)) from by omega)⟩
    · skip
      have c321 := wt_ncle h25
      refine wt_T_if (fun h322 => ?_) (fun h322 => ?_)
      · skip
        have c323 := wt_ceq h322
        obtain ⟨σ324, eσ324⟩ : ∃ z : wt_St, z = wt_sf r9.2 108 4 ((wt_gf σ 108 4) + r9.1) := ⟨_, rfl⟩
        rw [← eσ324]
        have fσ324 := wt_fr_sf eσ324
        have vσ324 := wt_ceq (wt_v_sf eσ324)
        obtain ⟨j325, j325a, j325b⟩ := wt_addI (wt_gf σ 108 4) r9.1
        have rσ324 := wt_Rm2 ri12 eσ324 (show 0 ≤ ((wt_gf σ 108 4) + r9.1).toInt by omega) (show ((wt_gf σ 108 4) + r9.1).toInt ≤ 500 by omega)
        obtain ⟨σ326, eσ326⟩ : ∃ z : wt_St, z = wt_sf σ324 108 7 ((wt_gf σ324 108 7) + (1 : Int32)) := ⟨_, rfl⟩
        rw [← eσ326]
        have fσ326 := wt_fr_sf eσ326
        have vσ326 := wt_ceq (wt_v_sf eσ326)
        have g328 : 0 ≤ (wt_gf σ324 108 7).toInt ∧ (wt_gf σ324 108 7).toInt ≤ 60 := wt_Rf4 rσ324
        have tt329 : (wt_gf σ324 108 7).toInt = (wt_gf r9.2 108 7).toInt := congrArg Int32.toInt (fσ324.1 108 7 (by (try dsimp only); omega))
        have tt332 : (wt_gf r9.2 108 7).toInt = (wt_gf σ 108 7).toInt := congrArg Int32.toInt (f11.1 108 7 (by (try dsimp only); omega))
        have k333 : (1 : Int32).toInt = 1 := by decide
        obtain ⟨j334, j334a, j334b⟩ := wt_addI (wt_gf σ324 108 7) (1 : Int32)
        have rσ326 := wt_Rm4 rσ324 eσ326 (show 0 ≤ ((wt_gf σ324 108 7) + (1 : Int32)).toInt by omega) (show ((wt_gf σ324 108 7) + (1 : Int32)).toInt ≤ 60 by omega)
        unfold wp_md_clause_B231
        refine wt_T_if (fun h335 => ?_) (fun h335 => ?_)
        · skip
          have c336 := wt_ceq h335
          unfold wp_md_clause_B246
          refine wt_T_bi (wq_md_pieces_110_120 n hn σ326 rσ326) (fun r337 h338 => ?_)
          obtain ⟨f339, ri340⟩ := h338
          unfold wp_md_clause_B377
          have k341 : (59 : Int32).toInt = 59 := by decide
          refine wt_T_bi (wq_md_closes n hn (59 : Int32) r337 ri340 (by first | with_reducible assumption | omega)) (fun r342 h343 => ?_)
          obtain ⟨f344, ri345, pp346⟩ := h343
          have g348 : 0 ≤ (wt_gf r337 108 5).toInt ∧ (wt_gf r337 108 5).toInt ≤ 3 := wt_Rf3 ri340
          have g350 : 0 ≤ (wt_gf r342 108 5).toInt ∧ (wt_gf r342 108 5).toInt ≤ 3 := wt_Rf3 ri345
          refine wt_T_some ?_
          have g352 : 0 ≤ (wt_gf r342 108 7).toInt ∧ (wt_gf r342 108 7).toInt ≤ 60 := wt_Rf4 ri345
          have tt353 : (wt_gf r342 108 7).toInt = (wt_gf r337 108 7).toInt := congrArg Int32.toInt (f344.1 108 7 (by (try dsimp only); omega))
          have tt356 : (wt_gf r337 108 7).toInt = (wt_gf σ326 108 7).toInt := congrArg Int32.toInt (f339.1 108 7 (by (try dsimp only); omega))
          exact ⟨(wt_fr.tr (wt_fr.tr (wt_fr.tr (wt_fr.tr (wt_fr.tr wt_fr.rf f11 (fun i k h => by (try dsimp only at h); exact Or.inl (by first | exact h | omega)) (fun i h => h.elim)) fσ324 (fun i k h => by (try dsimp only at h); exact Or.inl (by first | exact h | omega)) (fun i h => h.elim)) fσ326 (fun i k h => by (try dsimp only at h); exact Or.inr (Or.inl (by first | exact h | omega))) (fun i h => h.elim)) f339 (fun i k h => by (try dsimp only at h); rcases h with h | h | h; exact Or.inl (by first | exact h | omega); exact Or.inr (Or.inr (Or.inl (by first | exact h | omega))); exact Or.inr (Or.inr (Or.inr (Or.inl (by first | exact h | omega))))) (fun i h => by (try dsimp only at h); rcases h with h | h; exact Or.inr (Or.inr (Or.inr (Or.inl (by first | exact h | omega)))); exact Or.inr (Or.inr (Or.inr (Or.inr (Or.inl (by first | exact h | omega))))))) f344 (fun i k h => by (try dsimp only at h); rcases h with h | h | h; exact Or.inl (by first | exact h | omega); exact Or.inr (Or.inr (Or.inl (by first | exact h | omega))); exact Or.inr (Or.inr (Or.inr (Or.inl (by first | exact h | omega))))) (fun i h => h.elim)), ri345, (show ((wt_gf σ 108 7).toInt ≤ (wt_gf r342 108 7).toInt ∧ ((wt_gf r342 108 5).toInt ≠ 0 ∨ (wt_gf r342 108 7).toInt = (wt_gf σ 108 7).toInt + 1)) from by omega)⟩
        · skip
          have c359 := wt_nceq h335
          unfold wp_md_clause_B246
          refine wt_T_bi (wq_md_pieces_110_122 n hn σ326 rσ326) (fun r360 h361 => ?_)
          obtain ⟨f362, ri363⟩ := h361
          unfold wp_md_clause_B377
          have k364 : (59 : Int32).toInt = 59 := by decide
          refine wt_T_bi (wq_md_closes n hn (59 : Int32) r360 ri363 (by first | with_reducible assumption | omega)) (fun r365 h366 => ?_)
          obtain ⟨f367, ri368, pp369⟩ := h366
          have g371 : 0 ≤ (wt_gf r360 108 5).toInt ∧ (wt_gf r360 108 5).toInt ≤ 3 := wt_Rf3 ri363
          have g373 : 0 ≤ (wt_gf r365 108 5).toInt ∧ (wt_gf r365 108 5).toInt ≤ 3 := wt_Rf3 ri368
          refine wt_T_some ?_
          have g375 : 0 ≤ (wt_gf r365 108 7).toInt ∧ (wt_gf r365 108 7).toInt ≤ 60 := wt_Rf4 ri368
          have tt376 : (wt_gf r365 108 7).toInt = (wt_gf r360 108 7).toInt := congrArg Int32.toInt (f367.1 108 7 (by (try dsimp only); omega))
          have tt379 : (wt_gf r360 108 7).toInt = (wt_gf σ326 108 7).toInt := congrArg Int32.toInt (f362.1 108 7 (by (try dsimp only); omega))
          exact ⟨(wt_fr.tr (wt_fr.tr (wt_fr.tr (wt_fr.tr (wt_fr.tr wt_fr.rf f11 (fun i k h => by (try dsimp only at h); exact Or.inl (by first | exact h | omega)) (fun i h => h.elim)) fσ324 (fun i k h => by (try dsimp only at h); exact Or.inl (by first | exact h | omega)) (fun i h => h.elim)) fσ326 (fun i k h => by (try dsimp only at h); exact Or.inr (Or.inl (by first | exact h | omega))) (fun i h => h.elim)) f362 (fun i k h => by (try dsimp only at h); rcases h with h | h | h; exact Or.inl (by first | exact h | omega); exact Or.inr (Or.inr (Or.inl (by first | exact h | omega))); exact Or.inr (Or.inr (Or.inr (Or.inl (by first | exact h | omega))))) (fun i h => by (try dsimp only at h); rcases h with h | h; exact Or.inr (Or.inr (Or.inr (Or.inr (Or.inr (Or.inl (by first | exact h | omega)))))); exact Or.inr (Or.inr (Or.inr (Or.inr (Or.inl (by first | exact h | omega))))))) f367 (fun i k h => by (try dsimp only at h); rcases h with h | h | h; exact Or.inl (by first | exact h | omega); exact Or.inr (Or.inr (Or.inl (by first | exact h | omega))); exact Or.inr (Or.inr (Or.inr (Or.inl (by first | exact h | omega))))) (fun i h => h.elim)), ri368, (show ((wt_gf σ 108 7).toInt ≤ (wt_gf r365 108 7).toInt ∧ ((wt_gf r365 108 5).toInt ≠ 0 ∨ (wt_gf r365 108 7).toInt = (wt_gf σ 108 7).toInt + 1)) from by omega)⟩
      · skip
        have c382 := wt_nceq h322
        obtain ⟨σ383, eσ383⟩ : ∃ z : wt_St, z = wt_sf r9.2 108 4 ((wt_gf σ 108 4) + r9.1) := ⟨_, rfl⟩
        rw [← eσ383]
        have fσ383 := wt_fr_sf eσ383
        have vσ383 := wt_ceq (wt_v_sf eσ383)
        obtain ⟨j384, j384a, j384b⟩ := wt_addI (wt_gf σ 108 4) r9.1
        have rσ383 := wt_Rm2 ri12 eσ383 (show 0 ≤ ((wt_gf σ 108 4) + r9.1).toInt by omega) (show ((wt_gf σ 108 4) + r9.1).toInt ≤ 500 by omega)
        obtain ⟨σ385, eσ385⟩ : ∃ z : wt_St, z = wt_sf σ383 108 7 ((wt_gf σ383 108 7) + (1 : Int32)) := ⟨_, rfl⟩
        rw [← eσ385]
        have fσ385 := wt_fr_sf eσ385
        have vσ385 := wt_ceq (wt_v_sf eσ385)
        have g387 : 0 ≤ (wt_gf σ383 108 7).toInt ∧ (wt_gf σ383 108 7).toInt ≤ 60 := wt_Rf4 rσ383
        have tt388 : (wt_gf σ383 108 7).toInt = (wt_gf r9.2 108 7).toInt := congrArg Int32.toInt (fσ383.1 108 7 (by (try dsimp only); omega))
        have tt391 : (wt_gf r9.2 108 7).toInt = (wt_gf σ 108 7).toInt := congrArg Int32.toInt (f11.1 108 7 (by (try dsimp only); omega))
        have k392 : (1 : Int32).toInt = 1 := by decide
        obtain ⟨j393, j393a, j393b⟩ := wt_addI (wt_gf σ383 108 7) (1 : Int32)
        have rσ385 := wt_Rm4 rσ383 eσ385 (show 0 ≤ ((wt_gf σ383 108 7) + (1 : Int32)).toInt by omega) (show ((wt_gf σ383 108 7) + (1 : Int32)).toInt ≤ 60 by omega)
        unfold wp_md_clause_B231
        refine wt_T_if (fun h394 => ?_) (fun h394 => ?_)
        · skip
          have c395 := wt_ceq h394
          unfold wp_md_clause_B246
          refine wt_T_bi (wq_md_pieces_112_120 n hn σ385 rσ385) (fun r396 h397 => ?_)
          obtain ⟨f398, ri399⟩ := h397
          unfold wp_md_clause_B377
          have k400 : (59 : Int32).toInt = 59 := by decide
          refine wt_T_bi (wq_md_closes n hn (59 : Int32) r396 ri399 (by first | with_reducible assumption | omega)) (fun r401 h402 => ?_)
          obtain ⟨f403, ri404, pp405⟩ := h402
          have g407 : 0 ≤ (wt_gf r396 108 5).toInt ∧ (wt_gf r396 108 5).toInt ≤ 3 := wt_Rf3 ri399
          have g409 : 0 ≤ (wt_gf r401 108 5).toInt ∧ (wt_gf r401 108 5).toInt ≤ 3 := wt_Rf3 ri404
          refine wt_T_some ?_
          have g411 : 0 ≤ (wt_gf r401 108 7).toInt ∧ (wt_gf r401 108 7).toInt ≤ 60 := wt_Rf4 ri404
          have tt412 : (wt_gf r401 108 7).toInt = (wt_gf r396 108 7).toInt := congrArg Int32.toInt (f403.1 108 7 (by (try dsimp only); omega))
          have tt415 : (wt_gf r396 108 7).toInt = (wt_gf σ385 108 7).toInt := congrArg Int32.toInt (f398.1 108 7 (by (try dsimp only); omega))
          exact ⟨(wt_fr.tr (wt_fr.tr (wt_fr.tr (wt_fr.tr (wt_fr.tr wt_fr.rf f11 (fun i k h => by (try dsimp only at h); exact Or.inl (by first | exact h | omega)) (fun i h => h.elim)) fσ383 (fun i k h => by (try dsimp only at h); exact Or.inl (by first | exact h | omega)) (fun i h => h.elim)) fσ385 (fun i k h => by (try dsimp only at h); exact Or.inr (Or.inl (by first | exact h | omega))) (fun i h => h.elim)) f398 (fun i k h => by (try dsimp only at h); rcases h with h | h | h; exact Or.inl (by first | exact h | omega); exact Or.inr (Or.inr (Or.inl (by first | exact h | omega))); exact Or.inr (Or.inr (Or.inr (Or.inl (by first | exact h | omega))))) (fun i h => by (try dsimp only at h); rcases h with h | h; exact Or.inr (Or.inr (Or.inr (Or.inl (by first | exact h | omega)))); exact Or.inr (Or.inr (Or.inr (Or.inr (Or.inr (Or.inr (by first | exact h | omega)))))))) f403 (fun i k h => by (try dsimp only at h); rcases h with h | h | h; exact Or.inl (by first | exact h | omega); exact Or.inr (Or.inr (Or.inl (by first | exact h | omega))); exact Or.inr (Or.inr (Or.inr (Or.inl (by first | exact h | omega))))) (fun i h => h.elim)), ri404, (show ((wt_gf σ 108 7).toInt ≤ (wt_gf r401 108 7).toInt ∧ ((wt_gf r401 108 5).toInt ≠ 0 ∨ (wt_gf r401 108 7).toInt = (wt_gf σ 108 7).toInt + 1)) from by omega)⟩
        · skip
          have c418 := wt_nceq h394
          unfold wp_md_clause_B246
          refine wt_T_bi (wq_md_pieces_112_122 n hn σ385 rσ385) (fun r419 h420 => ?_)
          obtain ⟨f421, ri422⟩ := h420
          unfold wp_md_clause_B377
          have k423 : (59 : Int32).toInt = 59 := by decide
          refine wt_T_bi (wq_md_closes n hn (59 : Int32) r419 ri422 (by first | with_reducible assumption | omega)) (fun r424 h425 => ?_)
          obtain ⟨f426, ri427, pp428⟩ := h425
          have g430 : 0 ≤ (wt_gf r419 108 5).toInt ∧ (wt_gf r419 108 5).toInt ≤ 3 := wt_Rf3 ri422
          have g432 : 0 ≤ (wt_gf r424 108 5).toInt ∧ (wt_gf r424 108 5).toInt ≤ 3 := wt_Rf3 ri427
          refine wt_T_some ?_
          have g434 : 0 ≤ (wt_gf r424 108 7).toInt ∧ (wt_gf r424 108 7).toInt ≤ 60 := wt_Rf4 ri427
          have tt435 : (wt_gf r424 108 7).toInt = (wt_gf r419 108 7).toInt := congrArg Int32.toInt (f426.1 108 7 (by (try dsimp only); omega))
          have tt438 : (wt_gf r419 108 7).toInt = (wt_gf σ385 108 7).toInt := congrArg Int32.toInt (f421.1 108 7 (by (try dsimp only); omega))
          exact ⟨(wt_fr.tr (wt_fr.tr (wt_fr.tr (wt_fr.tr (wt_fr.tr wt_fr.rf f11 (fun i k h => by (try dsimp only at h); exact Or.inl (by first | exact h | omega)) (fun i h => h.elim)) fσ383 (fun i k h => by (try dsimp only at h); exact Or.inl (by first | exact h | omega)) (fun i h => h.elim)) fσ385 (fun i k h => by (try dsimp only at h); exact Or.inr (Or.inl (by first | exact h | omega))) (fun i h => h.elim)) f421 (fun i k h => by (try dsimp only at h); rcases h with h | h | h; exact Or.inl (by first | exact h | omega); exact Or.inr (Or.inr (Or.inl (by first | exact h | omega))); exact Or.inr (Or.inr (Or.inr (Or.inl (by first | exact h | omega))))) (fun i h => by (try dsimp only at h); rcases h with h | h; exact Or.inr (Or.inr (Or.inr (Or.inr (Or.inr (Or.inl (by first | exact h | omega)))))); exact Or.inr (Or.inr (Or.inr (Or.inr (Or.inr (Or.inr (by first | exact h | omega)))))))) f426 (fun i k h => by (try dsimp only at h); rcases h with h | h | h; exact Or.inl (by first | exact h | omega); exact Or.inr (Or.inr (Or.inl (by first | exact h | omega))); exact Or.inr (Or.inr (Or.inr (Or.inl (by first | exact h | omega))))) (fun i h => h.elim)), ri427, (show ((wt_gf σ 108 7).toInt ≤ (wt_gf r424 108 7).toInt ∧ ((wt_gf r424 108 5).toInt ≠ 0 ∨ (wt_gf r424 108 7).toInt = (wt_gf σ 108 7).toInt + 1)) from by omega)⟩
  · skip
    have c441 := wt_nceq h7
    refine wt_T_some ?_
    exact ⟨wt_fr.rf, r0, (show ((wt_gf σ 108 7).toInt ≤ (wt_gf σ 108 7).toInt ∧ ((wt_gf σ 108 5).toInt ≠ 0 ∨ (wt_gf σ 108 7).toInt = (wt_gf σ 108 7).toInt + 1)) from by omega)⟩
set_option maxRecDepth 100000 in
set_option maxHeartbeats 4000000 in
theorem wq_md_clause_B149 (n : Nat) (hn : 4294967297 < n) (x1 : Int32) (y0 : Int32) (σ : wt_St) (r0 : wt_RI σ) (p0 : -1 ≤ y0.toInt) (p1 : y0.toInt ≤ 5) : wt_T (wp_md_clause_B149 n x1 y0 σ) (fun q => wt_fr (fun i k => (i = 108 ∧ k = 5) ∨ (i = 108 ∧ k = 6) ∨ (i = 108 ∧ k = 4) ∨ (i = 108 ∧ k = 7) ∨ (i = 108 ∧ k = 24)) (fun i => i = 114 ∨ i = 116 ∨ i = 118 ∨ i = 120 ∨ i = 110 ∨ i = 122 ∨ i = 112) σ q ∧ wt_RI q ∧ ((wt_gf σ 108 7).toInt ≤ (wt_gf q 108 7).toInt ∧ ((wt_gf q 108 5).toInt ≠ 0 ∨ (wt_gf q 108 7).toInt = (wt_gf σ 108 7).toInt + 1))) := by
  have bb1 := wt_bd x1
  have bb2 := wt_bd y0
  unfold wp_md_clause_B149
  refine wt_T_if (fun h3 => ?_) (fun h3 => ?_)
  · skip
    have c4 := wt_ceq h3
    rw [wt_lm1] at c4
    have k5 : (1 : Int32).toInt = 1 := by decide
    refine wt_T_bi (wq_md_wrong n hn (1 : Int32) x1 σ r0 (by first | with_reducible assumption | omega) (by first | with_reducible assumption | omega)) (fun r6 h7 => ?_)
    obtain ⟨f8, ri9, pp10⟩ := h7
    have g12 : 0 ≤ (wt_gf r6 108 5).toInt ∧ (wt_gf r6 108 5).toInt ≤ 3 := wt_Rf3 ri9
    have g14 : 0 ≤ (wt_gf r6 108 7).toInt ∧ (wt_gf r6 108 7).toInt ≤ 60 := wt_Rf4 ri9
    have tt15 : (wt_gf r6 108 7).toInt = (wt_gf σ 108 7).toInt := congrArg Int32.toInt (f8.1 108 7 (by (try dsimp only); omega))
    refine wt_T.imp (wq_md_clause_B179 n hn y0 r6 ri9 (by first | with_reducible assumption | omega)) (fun r18 h19 => ?_)
    obtain ⟨f20, ri21, pp22⟩ := h19
    have g24 : 0 ≤ (wt_gf r18 108 7).toInt ∧ (wt_gf r18 108 7).toInt ≤ 60 := wt_Rf4 ri21
    have g26 : 0 ≤ (wt_gf r18 108 5).toInt ∧ (wt_gf r18 108 5).toInt ≤ 3 := wt_Rf3 ri21
    exact ⟨(wt_fr.tr (wt_fr.tr wt_fr.rf f8 (fun i k h => by (try dsimp only at h); rcases h with h | h; exact Or.inl (by first | exact h | omega); exact Or.inr (Or.inl (by first | exact h | omega))) (fun i h => h.elim)) f20 (fun i k h => by (try dsimp only at h); rcases h with h | h | h | h | h; exact Or.inr (Or.inr (Or.inl (by first | exact h | omega))); exact Or.inr (Or.inr (Or.inr (Or.inl (by first | exact h | omega)))); exact Or.inl (by first | exact h | omega); exact Or.inr (Or.inl (by first | exact h | omega)); exact Or.inr (Or.inr (Or.inr (Or.inr (by first | exact h | omega))))) (fun i h => by (try dsimp only at h); rcases h with h | h | h | h | h | h | h; exact Or.inl (by first | exact h | omega); exact Or.inr (Or.inl (by first | exact h | omega)); exact Or.inr (Or.inr (Or.inl (by first | exact h | omega))); exact Or.inr (Or.inr (Or.inr (Or.inl (by first | exact h | omega)))); exact Or.inr (Or.inr (Or.inr (Or.inr (Or.inl (by first | exact h | omega))))); exact Or.inr (Or.inr (Or.inr (Or.inr (Or.inr (Or.inl (by first | exact h | omega)))))); exact Or.inr (Or.inr (Or.inr (Or.inr (Or.inr (Or.inr (by first | exact h | omega)))))))), ri21, (show ((wt_gf σ 108 7).toInt ≤ (wt_gf r18 108 7).toInt ∧ ((wt_gf r18 108 5).toInt ≠ 0 ∨ (wt_gf r18 108 7).toInt = (wt_gf σ 108 7).toInt + 1)) from by omega)⟩
  · skip
    have c27 := wt_nceq h3
    rw [wt_lm1] at c27
    have g29 : 0 ≤ (wt_gf σ 108 7).toInt ∧ (wt_gf σ 108 7).toInt ≤ 60 := wt_Rf4 r0
    have k30 : (60 : Int32).toInt = 60 := by decide
    refine wt_T_if (fun h31 => ?_) (fun h31 => ?_)
    · skip
      have c32 := wt_ceq h31
      have k33 : (3 : Int32).toInt = 3 := by decide
      refine wt_T_bi (wq_md_wrong n hn (3 : Int32) x1 σ r0 (by first | with_reducible assumption | omega) (by first | with_reducible assumption | omega)) (fun r34 h35 => ?_)
      obtain ⟨f36, ri37, pp38⟩ := h35
      have g40 : 0 ≤ (wt_gf r34 108 5).toInt ∧ (wt_gf r34 108 5).toInt ≤ 3 := wt_Rf3 ri37
      have g42 : 0 ≤ (wt_gf r34 108 7).toInt ∧ (wt_gf r34 108 7).toInt ≤ 60 := wt_Rf4 ri37
      have tt43 : (wt_gf r34 108 7).toInt = (wt_gf σ 108 7).toInt := congrArg Int32.toInt (f36.1 108 7 (by (try dsimp only); omega))
      refine wt_T.imp (wq_md_clause_B179 n hn y0 r34 ri37 (by first | with_reducible assumption | omega)) (fun r44 h45 => ?_)
      obtain ⟨f46, ri47, pp48⟩ := h45
      have g50 : 0 ≤ (wt_gf r44 108 7).toInt ∧ (wt_gf r44 108 7).toInt ≤ 60 := wt_Rf4 ri47
      have g52 : 0 ≤ (wt_gf r44 108 5).toInt ∧ (wt_gf r44 108 5).toInt ≤ 3 := wt_Rf3 ri47
      exact ⟨(wt_fr.tr (wt_fr.tr wt_fr.rf f36 (fun i k h => by (try dsimp only at h); rcases h with h | h; exact Or.inl (by first | exact h | omega); exact Or.inr (Or.inl (by first | exact h | omega))) (fun i h => h.elim)) f46 (fun i k h => by (try dsimp only at h); rcases h with h | h | h | h | h; exact Or.inr (Or.inr (Or.inl (by first | exact h | omega))); exact Or.inr (Or.inr (Or.inr (Or.inl (by first | exact h | omega)))); exact Or.inl (by first | exact h | omega); exact Or.inr (Or.inl (by first | exact h | omega)); exact Or.inr (Or.inr (Or.inr (Or.inr (by first | exact h | omega))))) (fun i h => by (try dsimp only at h); rcases h with h | h | h | h | h | h | h; exact Or.inl (by first | exact h | omega); exact Or.inr (Or.inl (by first | exact h | omega)); exact Or.inr (Or.inr (Or.inl (by first | exact h | omega))); exact Or.inr (Or.inr (Or.inr (Or.inl (by first | exact h | omega)))); exact Or.inr (Or.inr (Or.inr (Or.inr (Or.inl (by first | exact h | omega))))); exact Or.inr (Or.inr (Or.inr (Or.inr (Or.inr (Or.inl (by first | exact h | omega)))))); exact Or.inr (Or.inr (Or.inr (Or.inr (Or.inr (Or.inr (by first | exact h | omega)))))))), ri47, (show ((wt_gf σ 108 7).toInt ≤ (wt_gf r44 108 7).toInt ∧ ((wt_gf r44 108 5).toInt ≠ 0 ∨ (wt_gf r44 108 7).toInt = (wt_gf σ 108 7).toInt + 1)) from by omega)⟩
    · skip
      have c53 := wt_nceq h31
      have g55 : 0 ≤ (wt_gf σ 108 5).toInt ∧ (wt_gf σ 108 5).toInt ≤ 3 := wt_Rf3 r0
      refine wt_T.imp (wq_md_clause_B179 n hn y0 σ r0 (by first | with_reducible assumption | omega)) (fun r56 h57 => ?_)
      obtain ⟨f58, ri59, pp60⟩ := h57
      have g62 : 0 ≤ (wt_gf r56 108 7).toInt ∧ (wt_gf r56 108 7).toInt ≤ 60 := wt_Rf4 ri59
      have g64 : 0 ≤ (wt_gf r56 108 5).toInt ∧ (wt_gf r56 108 5).toInt ≤ 3 := wt_Rf3 ri59
      exact ⟨(wt_fr.tr wt_fr.rf f58 (fun i k h => by (try dsimp only at h); rcases h with h | h | h | h | h; exact Or.inr (Or.inr (Or.inl (by first | exact h | omega))); exact Or.inr (Or.inr (Or.inr (Or.inl (by first | exact h | omega)))); exact Or.inl (by first | exact h | omega); exact Or.inr (Or.inl (by first | exact h | omega)); exact Or.inr (Or.inr (Or.inr (Or.inr (by first | exact h | omega))))) (fun i h => by (try dsimp only at h); rcases h with h | h | h | h | h | h | h; exact Or.inl (by first | exact h | omega); exact Or.inr (Or.inl (by first | exact h | omega)); exact Or.inr (Or.inr (Or.inl (by first | exact h | omega))); exact Or.inr (Or.inr (Or.inr (Or.inl (by first | exact h | omega)))); exact Or.inr (Or.inr (Or.inr (Or.inr (Or.inl (by first | exact h | omega))))); exact Or.inr (Or.inr (Or.inr (Or.inr (Or.inr (Or.inl (by first | exact h | omega)))))); exact Or.inr (Or.inr (Or.inr (Or.inr (Or.inr (Or.inr (by first | exact h | omega)))))))), ri59, (show ((wt_gf σ 108 7).toInt ≤ (wt_gf r56 108 7).toInt ∧ ((wt_gf r56 108 5).toInt ≠ 0 ∨ (wt_gf r56 108 7).toInt = (wt_gf σ 108 7).toInt + 1)) from by omega)⟩
set_option maxRecDepth 100000 in
set_option maxHeartbeats 4000000 in
theorem wq_md_clause (n : Nat) (hn : 4294967297 < n) (σ : wt_St) (r0 : wt_RI σ) : wt_T (wp_md_clause n σ) (fun q => wt_fr (fun i k => (i = 108 ∧ k = 4) ∨ (i = 108 ∧ k = 5) ∨ (i = 108 ∧ k = 6) ∨ (i = 108 ∧ k = 7) ∨ (i = 108 ∧ k = 24)) (fun i => i = 114 ∨ i = 116 ∨ i = 118 ∨ i = 120 ∨ i = 110 ∨ i = 122 ∨ i = 112) σ q ∧ wt_RI q ∧ ((wt_gf σ 108 7).toInt ≤ (wt_gf q 108 7).toInt ∧ ((wt_gf q 108 5).toInt ≠ 0 ∨ (wt_gf q 108 7).toInt = (wt_gf σ 108 7).toInt + 1))) := by
  unfold wp_md_clause
  have k1 : (12 : Int32).toInt = 12 := by decide
  have k2 : (5 : Int32).toInt = 5 := by decide
  have k3 : (20 : Int32).toInt = 20 := by decide
  have k4 : (18 : Int32).toInt = 18 := by decide
  refine wt_T_bi (wq_md_six n hn (12 : Int32) (5 : Int32) (20 : Int32) (20 : Int32) (5 : Int32) (18 : Int32) σ r0) (fun r5 h6 => ?_)
  have e7 := h6
  have bb8 := wt_bd r5.1
  rw [e7]
  refine wt_T_bi (wq_md_isWord n hn r5.1 σ r0) (fun r9 h10 => ?_)
  obtain ⟨f11, ri12⟩ := h10
  have bb13 := wt_bd r9.1
  have k14 : (0 : Int32).toInt = 0 := by decide
  refine wt_T_if (fun h15 => ?_) (fun h15 => ?_)
  · skip
    have c16 := wt_ceq h15
    have k17 : (8 : Int32).toInt = 8 := by decide
    refine wt_T_bi (wq_md_six n hn (20 : Int32) (8 : Int32) (5 : Int32) (18 : Int32) (5 : Int32) (0 : Int32) r9.2 ri12) (fun r18 h19 => ?_)
    have e20 := h19
    have bb21 := wt_bd r18.1
    rw [e20]
    refine wt_T_bi (wq_md_isWord n hn r18.1 r9.2 ri12) (fun r22 h23 => ?_)
    obtain ⟨f24, ri25⟩ := h23
    have bb26 := wt_bd r22.1
    refine wt_T_if (fun h27 => ?_) (fun h27 => ?_)
    · skip
      have c28 := wt_ceq h27
      have k29 : (16 : Int32).toInt = 16 := by decide
      have k30 : (9 : Int32).toInt = 9 := by decide
      have k31 : (3 : Int32).toInt = 3 := by decide
      refine wt_T_bi (wq_md_six n hn (16 : Int32) (18 : Int32) (9 : Int32) (3 : Int32) (5 : Int32) (0 : Int32) r22.2 ri25) (fun r32 h33 => ?_)
      have e34 := h33
      have bb35 := wt_bd r32.1
      rw [e34]
      refine wt_T_bi (wq_md_isWord n hn r32.1 r22.2 ri25) (fun r36 h37 => ?_)
      obtain ⟨f38, ri39⟩ := h37
      have bb40 := wt_bd r36.1
      refine wt_T_if (fun h41 => ?_) (fun h41 => ?_)
      · skip
        have c42 := wt_ceq h41
        have k43 : (6 : Int32).toInt = 6 := by decide
        have k44 : (1 : Int32).toInt = 1 := by decide
        have k45 : (14 : Int32).toInt = 14 := by decide
        refine wt_T_bi (wq_md_six n hn (6 : Int32) (1 : Int32) (9 : Int32) (14 : Int32) (20 : Int32) (0 : Int32) r36.2 ri39) (fun r46 h47 => ?_)
        have e48 := h47
        have bb49 := wt_bd r46.1
        rw [e48]
        refine wt_T_bi (wq_md_isWord n hn r46.1 r36.2 ri39) (fun r50 h51 => ?_)
        obtain ⟨f52, ri53⟩ := h51
        have bb54 := wt_bd r50.1
        refine wt_T_if (fun h55 => ?_) (fun h55 => ?_)
        · skip
          have c56 := wt_ceq h55
          have k57 : (11 : Int32).toInt = 11 := by decide
          refine wt_T_bi (wq_md_six n hn (12 : Int32) (9 : Int32) (11 : Int32) (5 : Int32) (0 : Int32) (0 : Int32) r50.2 ri53) (fun r58 h59 => ?_)
          have e60 := h59
          have bb61 := wt_bd r58.1
          rw [e60]
          refine wt_T_bi (wq_md_isWord n hn r58.1 r50.2 ri53) (fun r62 h63 => ?_)
          obtain ⟨f64, ri65⟩ := h63
          have bb66 := wt_bd r62.1
          refine wt_T_if (fun h67 => ?_) (fun h67 => ?_)
          · skip
            have c68 := wt_ceq h67
            have k69 : (15 : Int32).toInt = 15 := by decide
            have k70 : (23 : Int32).toInt = 23 := by decide
            refine wt_T_bi (wq_md_six n hn (6 : Int32) (15 : Int32) (12 : Int32) (12 : Int32) (15 : Int32) (23 : Int32) r62.2 ri65) (fun r71 h72 => ?_)
            have e73 := h72
            have bb74 := wt_bd r71.1
            rw [e73]
            refine wt_T_bi (wq_md_isWord n hn r71.1 r62.2 ri65) (fun r75 h76 => ?_)
            obtain ⟨f77, ri78⟩ := h76
            have bb79 := wt_bd r75.1
            refine wt_T_if (fun h80 => ?_) (fun h80 => ?_)
            · skip
              have c81 := wt_ceq h80
              have g83 : 0 ≤ (wt_gf σ 108 4).toInt ∧ (wt_gf σ 108 4).toInt ≤ 500 := wt_Rf2 r0
              have k84 := wt_lm1
              refine wt_T.imp (wq_md_clause_B149 n hn (wt_gf σ 108 4) (-1 : Int32) r75.2 ri78 (by first | with_reducible assumption | omega) (by first | with_reducible assumption | omega)) (fun r85 h86 => ?_)
              obtain ⟨f87, ri88, pp89⟩ := h86
              have g91 : 0 ≤ (wt_gf r75.2 108 7).toInt ∧ (wt_gf r75.2 108 7).toInt ≤ 60 := wt_Rf4 ri78
              have tt92 : (wt_gf r75.2 108 7).toInt = (wt_gf r62.2 108 7).toInt := congrArg Int32.toInt (f77.1 108 7 (by (try dsimp only); omega))
              have tt95 : (wt_gf r62.2 108 7).toInt = (wt_gf r50.2 108 7).toInt := congrArg Int32.toInt (f64.1 108 7 (by (try dsimp only); omega))
              have tt98 : (wt_gf r50.2 108 7).toInt = (wt_gf r36.2 108 7).toInt := congrArg Int32.toInt (f52.1 108 7 (by (try dsimp only); omega))
              have tt101 : (wt_gf r36.2 108 7).toInt = (wt_gf r22.2 108 7).toInt := congrArg Int32.toInt (f38.1 108 7 (by (try dsimp only); omega))
              have tt104 : (wt_gf r22.2 108 7).toInt = (wt_gf r9.2 108 7).toInt := congrArg Int32.toInt (f24.1 108 7 (by (try dsimp only); omega))
              have tt107 : (wt_gf r9.2 108 7).toInt = (wt_gf σ 108 7).toInt := congrArg Int32.toInt (f11.1 108 7 (by (try dsimp only); omega))
              have g111 : 0 ≤ (wt_gf r85 108 7).toInt ∧ (wt_gf r85 108 7).toInt ≤ 60 := wt_Rf4 ri88
              have g113 : 0 ≤ (wt_gf r85 108 5).toInt ∧ (wt_gf r85 108 5).toInt ≤ 3 := wt_Rf3 ri88
              exact ⟨(wt_fr.tr (wt_fr.tr (wt_fr.tr (wt_fr.tr (wt_fr.tr (wt_fr.tr (wt_fr.tr wt_fr.rf f11 (fun i k h => by (try dsimp only at h); exact Or.inl (by first | exact h | omega)) (fun i h => h.elim)) f24 (fun i k h => by (try dsimp only at h); exact Or.inl (by first | exact h | omega)) (fun i h => h.elim)) f38 (fun i k h => by (try dsimp only at h); exact Or.inl (by first | exact h | omega)) (fun i h => h.elim)) f52 (fun i k h => by (try dsimp only at h); exact Or.inl (by first | exact h | omega)) (fun i h => h.elim)) f64 (fun i k h => by (try dsimp only at h); exact Or.inl (by first | exact h | omega)) (fun i h => h.elim)) f77 (fun i k h => by (try dsimp only at h); exact Or.inl (by first | exact h | omega)) (fun i h => h.elim)) f87 (fun i k h => by (try dsimp only at h); rcases h with h | h | h | h | h; exact Or.inr (Or.inl (by first | exact h | omega)); exact Or.inr (Or.inr (Or.inl (by first | exact h | omega))); exact Or.inl (by first | exact h | omega); exact Or.inr (Or.inr (Or.inr (Or.inl (by first | exact h | omega)))); exact Or.inr (Or.inr (Or.inr (Or.inr (by first | exact h | omega))))) (fun i h => by (try dsimp only at h); rcases h with h | h | h | h | h | h | h; exact Or.inl (by first | exact h | omega); exact Or.inr (Or.inl (by first | exact h | omega)); exact Or.inr (Or.inr (Or.inl (by first | exact h | omega))); exact Or.inr (Or.inr (Or.inr (Or.inl (by first | exact h | omega)))); exact Or.inr (Or.inr (Or.inr (Or.inr (Or.inl (by first | exact h | omega))))); exact Or.inr (Or.inr (Or.inr (Or.inr (Or.inr (Or.inl (by first | exact h | omega)))))); exact Or.inr (Or.inr (Or.inr (Or.inr (Or.inr (Or.inr (by first | exact h | omega)))))))), ri88, (show ((wt_gf σ 108 7).toInt ≤ (wt_gf r85 108 7).toInt ∧ ((wt_gf r85 108 5).toInt ≠ 0 ∨ (wt_gf r85 108 7).toInt = (wt_gf σ 108 7).toInt + 1)) from by omega)⟩
            · skip
              have c114 := wt_nceq h80
              have g116 : 0 ≤ (wt_gf σ 108 4).toInt ∧ (wt_gf σ 108 4).toInt ≤ 500 := wt_Rf2 r0
              refine wt_T.imp (wq_md_clause_B149 n hn (wt_gf σ 108 4) (5 : Int32) r75.2 ri78 (by first | with_reducible assumption | omega) (by first | with_reducible assumption | omega)) (fun r117 h118 => ?_)
              obtain ⟨f119, ri120, pp121⟩ := h118
              have g123 : 0 ≤ (wt_gf r75.2 108 7).toInt ∧ (wt_gf r75.2 108 7).toInt ≤ 60 := wt_Rf4 ri78
              have tt124 : (wt_gf r75.2 108 7).toInt = (wt_gf r62.2 108 7).toInt := congrArg Int32.toInt (f77.1 108 7 (by (try dsimp only); omega))
              have tt127 : (wt_gf r62.2 108 7).toInt = (wt_gf r50.2 108 7).toInt := congrArg Int32.toInt (f64.1 108 7 (by (try dsimp only); omega))
              have tt130 : (wt_gf r50.2 108 7).toInt = (wt_gf r36.2 108 7).toInt := congrArg Int32.toInt (f52.1 108 7 (by (try dsimp only); omega))
              have tt133 : (wt_gf r36.2 108 7).toInt = (wt_gf r22.2 108 7).toInt := congrArg Int32.toInt (f38.1 108 7 (by (try dsimp only); omega))
              have tt136 : (wt_gf r22.2 108 7).toInt = (wt_gf r9.2 108 7).toInt := congrArg Int32.toInt (f24.1 108 7 (by (try dsimp only); omega))
              have tt139 : (wt_gf r9.2 108 7).toInt = (wt_gf σ 108 7).toInt := congrArg Int32.toInt (f11.1 108 7 (by (try dsimp only); omega))
              have g143 : 0 ≤ (wt_gf r117 108 7).toInt ∧ (wt_gf r117 108 7).toInt ≤ 60 := wt_Rf4 ri120
              have g145 : 0 ≤ (wt_gf r117 108 5).toInt ∧ (wt_gf r117 108 5).toInt ≤ 3 := wt_Rf3 ri120
              exact ⟨(wt_fr.tr (wt_fr.tr (wt_fr.tr (wt_fr.tr (wt_fr.tr (wt_fr.tr (wt_fr.tr wt_fr.rf f11 (fun i k h => by (try dsimp only at h); exact Or.inl (by first | exact h | omega)) (fun i h => h.elim)) f24 (fun i k h => by (try dsimp only at h); exact Or.inl (by first | exact h | omega)) (fun i h => h.elim)) f38 (fun i k h => by (try dsimp only at h); exact Or.inl (by first | exact h | omega)) (fun i h => h.elim)) f52 (fun i k h => by (try dsimp only at h); exact Or.inl (by first | exact h | omega)) (fun i h => h.elim)) f64 (fun i k h => by (try dsimp only at h); exact Or.inl (by first | exact h | omega)) (fun i h => h.elim)) f77 (fun i k h => by (try dsimp only at h); exact Or.inl (by first | exact h | omega)) (fun i h => h.elim)) f119 (fun i k h => by (try dsimp only at h); rcases h with h | h | h | h | h; exact Or.inr (Or.inl (by first | exact h | omega)); exact Or.inr (Or.inr (Or.inl (by first | exact h | omega))); exact Or.inl (by first | exact h | omega); exact Or.inr (Or.inr (Or.inr (Or.inl (by first | exact h | omega)))); exact Or.inr (Or.inr (Or.inr (Or.inr (by first | exact h | omega))))) (fun i h => by (try dsimp only at h); rcases h with h | h | h | h | h | h | h; exact Or.inl (by first | exact h | omega); exact Or.inr (Or.inl (by first | exact h | omega)); exact Or.inr (Or.inr (Or.inl (by first | exact h | omega))); exact Or.inr (Or.inr (Or.inr (Or.inl (by first | exact h | omega)))); exact Or.inr (Or.inr (Or.inr (Or.inr (Or.inl (by first | exact h | omega))))); exact Or.inr (Or.inr (Or.inr (Or.inr (Or.inr (Or.inl (by first | exact h | omega)))))); exact Or.inr (Or.inr (Or.inr (Or.inr (Or.inr (Or.inr (by first | exact h | omega)))))))), ri120, (show ((wt_gf σ 108 7).toInt ≤ (wt_gf r117 108 7).toInt ∧ ((wt_gf r117 108 5).toInt ≠ 0 ∨ (wt_gf r117 108 7).toInt = (wt_gf σ 108 7).toInt + 1)) from by omega)⟩
          · skip
            have c146 := wt_nceq h67
            have g148 : 0 ≤ (wt_gf σ 108 4).toInt ∧ (wt_gf σ 108 4).toInt ≤ 500 := wt_Rf2 r0
            have k149 : (4 : Int32).toInt = 4 := by decide
            refine wt_T.imp (wq_md_clause_B149 n hn (wt_gf σ 108 4) (4 : Int32) r62.2 ri65 (by first | with_reducible assumption | omega) (by first | with_reducible assumption | omega)) (fun r150 h151 => ?_)
            obtain ⟨f152, ri153, pp154⟩ := h151
            have g156 : 0 ≤ (wt_gf r62.2 108 7).toInt ∧ (wt_gf r62.2 108 7).toInt ≤ 60 := wt_Rf4 ri65
            have tt157 : (wt_gf r62.2 108 7).toInt = (wt_gf r50.2 108 7).toInt := congrArg Int32.toInt (f64.1 108 7 (by (try dsimp only); omega))
            have tt160 : (wt_gf r50.2 108 7).toInt = (wt_gf r36.2 108 7).toInt := congrArg Int32.toInt (f52.1 108 7 (by (try dsimp only); omega))
            have tt163 : (wt_gf r36.2 108 7).toInt = (wt_gf r22.2 108 7).toInt := congrArg Int32.toInt (f38.1 108 7 (by (try dsimp only); omega))
            have tt166 : (wt_gf r22.2 108 7).toInt = (wt_gf r9.2 108 7).toInt := congrArg Int32.toInt (f24.1 108 7 (by (try dsimp only); omega))
            have tt169 : (wt_gf r9.2 108 7).toInt = (wt_gf σ 108 7).toInt := congrArg Int32.toInt (f11.1 108 7 (by (try dsimp only); omega))
            have g173 : 0 ≤ (wt_gf r150 108 7).toInt ∧ (wt_gf r150 108 7).toInt ≤ 60 := wt_Rf4 ri153
            have g175 : 0 ≤ (wt_gf r150 108 5).toInt ∧ (wt_gf r150 108 5).toInt ≤ 3 := wt_Rf3 ri153
            exact ⟨(wt_fr.tr (wt_fr.tr (wt_fr.tr (wt_fr.tr (wt_fr.tr (wt_fr.tr wt_fr.rf f11 (fun i k h => by (try dsimp only at h); exact Or.inl (by first | exact h | omega)) (fun i h => h.elim)) f24 (fun i k h => by (try dsimp only at h); exact Or.inl (by first | exact h | omega)) (fun i h => h.elim)) f38 (fun i k h => by (try dsimp only at h); exact Or.inl (by first | exact h | omega)) (fun i h => h.elim)) f52 (fun i k h => by (try dsimp only at h); exact Or.inl (by first | exact h | omega)) (fun i h => h.elim)) f64 (fun i k h => by (try dsimp only at h); exact Or.inl (by first | exact h | omega)) (fun i h => h.elim)) f152 (fun i k h => by (try dsimp only at h); rcases h with h | h | h | h | h; exact Or.inr (Or.inl (by first | exact h | omega)); exact Or.inr (Or.inr (Or.inl (by first | exact h | omega))); exact Or.inl (by first | exact h | omega); exact Or.inr (Or.inr (Or.inr (Or.inl (by first | exact h | omega)))); exact Or.inr (Or.inr (Or.inr (Or.inr (by first | exact h | omega))))) (fun i h => by (try dsimp only at h); rcases h with h | h | h | h | h | h | h; exact Or.inl (by first | exact h | omega); exact Or.inr (Or.inl (by first | exact h | omega)); exact Or.inr (Or.inr (Or.inl (by first | exact h | omega))); exact Or.inr (Or.inr (Or.inr (Or.inl (by first | exact h | omega)))); exact Or.inr (Or.inr (Or.inr (Or.inr (Or.inl (by first | exact h | omega))))); exact Or.inr (Or.inr (Or.inr (Or.inr (Or.inr (Or.inl (by first | exact h | omega)))))); exact Or.inr (Or.inr (Or.inr (Or.inr (Or.inr (Or.inr (by first | exact h | omega)))))))), ri153, (show ((wt_gf σ 108 7).toInt ≤ (wt_gf r150 108 7).toInt ∧ ((wt_gf r150 108 5).toInt ≠ 0 ∨ (wt_gf r150 108 7).toInt = (wt_gf σ 108 7).toInt + 1)) from by omega)⟩
        · skip
          have c176 := wt_nceq h55
          have g178 : 0 ≤ (wt_gf σ 108 4).toInt ∧ (wt_gf σ 108 4).toInt ≤ 500 := wt_Rf2 r0
          refine wt_T.imp (wq_md_clause_B149 n hn (wt_gf σ 108 4) (3 : Int32) r50.2 ri53 (by first | with_reducible assumption | omega) (by first | with_reducible assumption | omega)) (fun r179 h180 => ?_)
          obtain ⟨f181, ri182, pp183⟩ := h180
          have g185 : 0 ≤ (wt_gf r50.2 108 7).toInt ∧ (wt_gf r50.2 108 7).toInt ≤ 60 := wt_Rf4 ri53
          have tt186 : (wt_gf r50.2 108 7).toInt = (wt_gf r36.2 108 7).toInt := congrArg Int32.toInt (f52.1 108 7 (by (try dsimp only); omega))
          have tt189 : (wt_gf r36.2 108 7).toInt = (wt_gf r22.2 108 7).toInt := congrArg Int32.toInt (f38.1 108 7 (by (try dsimp only); omega))
          have tt192 : (wt_gf r22.2 108 7).toInt = (wt_gf r9.2 108 7).toInt := congrArg Int32.toInt (f24.1 108 7 (by (try dsimp only); omega))
          have tt195 : (wt_gf r9.2 108 7).toInt = (wt_gf σ 108 7).toInt := congrArg Int32.toInt (f11.1 108 7 (by (try dsimp only); omega))
          have g199 : 0 ≤ (wt_gf r179 108 7).toInt ∧ (wt_gf r179 108 7).toInt ≤ 60 := wt_Rf4 ri182
          have g201 : 0 ≤ (wt_gf r179 108 5).toInt ∧ (wt_gf r179 108 5).toInt ≤ 3 := wt_Rf3 ri182
          exact ⟨(wt_fr.tr (wt_fr.tr (wt_fr.tr (wt_fr.tr (wt_fr.tr wt_fr.rf f11 (fun i k h => by (try dsimp only at h); exact Or.inl (by first | exact h | omega)) (fun i h => h.elim)) f24 (fun i k h => by (try dsimp only at h); exact Or.inl (by first | exact h | omega)) (fun i h => h.elim)) f38 (fun i k h => by (try dsimp only at h); exact Or.inl (by first | exact h | omega)) (fun i h => h.elim)) f52 (fun i k h => by (try dsimp only at h); exact Or.inl (by first | exact h | omega)) (fun i h => h.elim)) f181 (fun i k h => by (try dsimp only at h); rcases h with h | h | h | h | h; exact Or.inr (Or.inl (by first | exact h | omega)); exact Or.inr (Or.inr (Or.inl (by first | exact h | omega))); exact Or.inl (by first | exact h | omega); exact Or.inr (Or.inr (Or.inr (Or.inl (by first | exact h | omega)))); exact Or.inr (Or.inr (Or.inr (Or.inr (by first | exact h | omega))))) (fun i h => by (try dsimp only at h); rcases h with h | h | h | h | h | h | h; exact Or.inl (by first | exact h | omega); exact Or.inr (Or.inl (by first | exact h | omega)); exact Or.inr (Or.inr (Or.inl (by first | exact h | omega))); exact Or.inr (Or.inr (Or.inr (Or.inl (by first | exact h | omega)))); exact Or.inr (Or.inr (Or.inr (Or.inr (Or.inl (by first | exact h | omega))))); exact Or.inr (Or.inr (Or.inr (Or.inr (Or.inr (Or.inl (by first | exact h | omega)))))); exact Or.inr (Or.inr (Or.inr (Or.inr (Or.inr (Or.inr (by first | exact h | omega)))))))), ri182, (show ((wt_gf σ 108 7).toInt ≤ (wt_gf r179 108 7).toInt ∧ ((wt_gf r179 108 5).toInt ≠ 0 ∨ (wt_gf r179 108 7).toInt = (wt_gf σ 108 7).toInt + 1)) from by omega)⟩
      · skip
        have c202 := wt_nceq h41
        have g204 : 0 ≤ (wt_gf σ 108 4).toInt ∧ (wt_gf σ 108 4).toInt ≤ 500 := wt_Rf2 r0
        have k205 : (2 : Int32).toInt = 2 := by decide
        refine wt_T.imp (wq_md_clause_B149 n hn (wt_gf σ 108 4) (2 : Int32) r36.2 ri39 (by first | with_reducible assumption | omega) (by first | with_reducible assumption | omega)) (fun r206 h207 => ?_)
        obtain ⟨f208, ri209, pp210⟩ := h207
        have g212 : 0 ≤ (wt_gf r36.2 108 7).toInt ∧ (wt_gf r36.2 108 7).toInt ≤ 60 := wt_Rf4 ri39
        have tt213 : (wt_gf r36.2 108 7).toInt = (wt_gf r22.2 108 7).toInt := congrArg Int32.toInt (f38.1 108 7 (by (try dsimp only); omega))
        have tt216 : (wt_gf r22.2 108 7).toInt = (wt_gf r9.2 108 7).toInt := congrArg Int32.toInt (f24.1 108 7 (by (try dsimp only); omega))
        have tt219 : (wt_gf r9.2 108 7).toInt = (wt_gf σ 108 7).toInt := congrArg Int32.toInt (f11.1 108 7 (by (try dsimp only); omega))
        have g223 : 0 ≤ (wt_gf r206 108 7).toInt ∧ (wt_gf r206 108 7).toInt ≤ 60 := wt_Rf4 ri209
        have g225 : 0 ≤ (wt_gf r206 108 5).toInt ∧ (wt_gf r206 108 5).toInt ≤ 3 := wt_Rf3 ri209
        exact ⟨(wt_fr.tr (wt_fr.tr (wt_fr.tr (wt_fr.tr wt_fr.rf f11 (fun i k h => by (try dsimp only at h); exact Or.inl (by first | exact h | omega)) (fun i h => h.elim)) f24 (fun i k h => by (try dsimp only at h); exact Or.inl (by first | exact h | omega)) (fun i h => h.elim)) f38 (fun i k h => by (try dsimp only at h); exact Or.inl (by first | exact h | omega)) (fun i h => h.elim)) f208 (fun i k h => by (try dsimp only at h); rcases h with h | h | h | h | h; exact Or.inr (Or.inl (by first | exact h | omega)); exact Or.inr (Or.inr (Or.inl (by first | exact h | omega))); exact Or.inl (by first | exact h | omega); exact Or.inr (Or.inr (Or.inr (Or.inl (by first | exact h | omega)))); exact Or.inr (Or.inr (Or.inr (Or.inr (by first | exact h | omega))))) (fun i h => by (try dsimp only at h); rcases h with h | h | h | h | h | h | h; exact Or.inl (by first | exact h | omega); exact Or.inr (Or.inl (by first | exact h | omega)); exact Or.inr (Or.inr (Or.inl (by first | exact h | omega))); exact Or.inr (Or.inr (Or.inr (Or.inl (by first | exact h | omega)))); exact Or.inr (Or.inr (Or.inr (Or.inr (Or.inl (by first | exact h | omega))))); exact Or.inr (Or.inr (Or.inr (Or.inr (Or.inr (Or.inl (by first | exact h | omega)))))); exact Or.inr (Or.inr (Or.inr (Or.inr (Or.inr (Or.inr (by first | exact h | omega)))))))), ri209, (show ((wt_gf σ 108 7).toInt ≤ (wt_gf r206 108 7).toInt ∧ ((wt_gf r206 108 5).toInt ≠ 0 ∨ (wt_gf r206 108 7).toInt = (wt_gf σ 108 7).toInt + 1)) from by omega)⟩
    · skip
      have c226 := wt_nceq h27
      have g228 : 0 ≤ (wt_gf σ 108 4).toInt ∧ (wt_gf σ 108 4).toInt ≤ 500 := wt_Rf2 r0
      have k229 : (1 : Int32).toInt = 1 := by decide
      refine wt_T.imp (wq_md_clause_B149 n hn (wt_gf σ 108 4) (1 : Int32) r22.2 ri25 (by first | with_reducible assumption | omega) (by first | with_reducible assumption | omega)) (fun r230 h231 => ?_)
      obtain ⟨f232, ri233, pp234⟩ := h231
      have g236 : 0 ≤ (wt_gf r22.2 108 7).toInt ∧ (wt_gf r22.2 108 7).toInt ≤ 60 := wt_Rf4 ri25
      have tt237 : (wt_gf r22.2 108 7).toInt = (wt_gf r9.2 108 7).toInt := congrArg Int32.toInt (f24.1 108 7 (by (try dsimp only); omega))
      have tt240 : (wt_gf r9.2 108 7).toInt = (wt_gf σ 108 7).toInt := congrArg Int32.toInt (f11.1 108 7 (by (try dsimp only); omega))
      have g244 : 0 ≤ (wt_gf r230 108 7).toInt ∧ (wt_gf r230 108 7).toInt ≤ 60 := wt_Rf4 ri233
      have g246 : 0 ≤ (wt_gf r230 108 5).toInt ∧ (wt_gf r230 108 5).toInt ≤ 3 := wt_Rf3 ri233
      exact ⟨(wt_fr.tr (wt_fr.tr (wt_fr.tr wt_fr.rf f11 (fun i k h => by (try dsimp only at h); exact Or.inl (by first | exact h | omega)) (fun i h => h.elim)) f24 (fun i k h => by (try dsimp only at h); exact Or.inl (by first | exact h | omega)) (fun i h => h.elim)) f232 (fun i k h => by (try dsimp only at h); rcases h with h | h | h | h | h; exact Or.inr (Or.inl (by first | exact h | omega)); exact Or.inr (Or.inr (Or.inl (by first | exact h | omega))); exact Or.inl (by first | exact h | omega); exact Or.inr (Or.inr (Or.inr (Or.inl (by first | exact h | omega)))); exact Or.inr (Or.inr (Or.inr (Or.inr (by first | exact h | omega))))) (fun i h => by (try dsimp only at h); rcases h with h | h | h | h | h | h | h; exact Or.inl (by first | exact h | omega); exact Or.inr (Or.inl (by first | exact h | omega)); exact Or.inr (Or.inr (Or.inl (by first | exact h | omega))); exact Or.inr (Or.inr (Or.inr (Or.inl (by first | exact h | omega)))); exact Or.inr (Or.inr (Or.inr (Or.inr (Or.inl (by first | exact h | omega))))); exact Or.inr (Or.inr (Or.inr (Or.inr (Or.inr (Or.inl (by first | exact h | omega)))))); exact Or.inr (Or.inr (Or.inr (Or.inr (Or.inr (Or.inr (by first | exact h | omega)))))))), ri233, (show ((wt_gf σ 108 7).toInt ≤ (wt_gf r230 108 7).toInt ∧ ((wt_gf r230 108 5).toInt ≠ 0 ∨ (wt_gf r230 108 7).toInt = (wt_gf σ 108 7).toInt + 1)) from by omega)⟩
  · skip
    have c247 := wt_nceq h15
    have g249 : 0 ≤ (wt_gf σ 108 4).toInt ∧ (wt_gf σ 108 4).toInt ≤ 500 := wt_Rf2 r0
    refine wt_T.imp (wq_md_clause_B149 n hn (wt_gf σ 108 4) (0 : Int32) r9.2 ri12 (by first | with_reducible assumption | omega) (by first | with_reducible assumption | omega)) (fun r250 h251 => ?_)
    obtain ⟨f252, ri253, pp254⟩ := h251
    have g256 : 0 ≤ (wt_gf r9.2 108 7).toInt ∧ (wt_gf r9.2 108 7).toInt ≤ 60 := wt_Rf4 ri12
    have tt257 : (wt_gf r9.2 108 7).toInt = (wt_gf σ 108 7).toInt := congrArg Int32.toInt (f11.1 108 7 (by (try dsimp only); omega))
    have g261 : 0 ≤ (wt_gf r250 108 7).toInt ∧ (wt_gf r250 108 7).toInt ≤ 60 := wt_Rf4 ri253
    have g263 : 0 ≤ (wt_gf r250 108 5).toInt ∧ (wt_gf r250 108 5).toInt ≤ 3 := wt_Rf3 ri253
    exact ⟨(wt_fr.tr (wt_fr.tr wt_fr.rf f11 (fun i k h => by (try dsimp only at h); exact Or.inl (by first | exact h | omega)) (fun i h => h.elim)) f252 (fun i k h => by (try dsimp only at h); rcases h with h | h | h | h | h; exact Or.inr (Or.inl (by first | exact h | omega)); exact Or.inr (Or.inr (Or.inl (by first | exact h | omega))); exact Or.inl (by first | exact h | omega); exact Or.inr (Or.inr (Or.inr (Or.inl (by first | exact h | omega)))); exact Or.inr (Or.inr (Or.inr (Or.inr (by first | exact h | omega))))) (fun i h => by (try dsimp only at h); rcases h with h | h | h | h | h | h | h; exact Or.inl (by first | exact h | omega); exact Or.inr (Or.inl (by first | exact h | omega)); exact Or.inr (Or.inr (Or.inl (by first | exact h | omega))); exact Or.inr (Or.inr (Or.inr (Or.inl (by first | exact h | omega)))); exact Or.inr (Or.inr (Or.inr (Or.inr (Or.inl (by first | exact h | omega))))); exact Or.inr (Or.inr (Or.inr (Or.inr (Or.inr (Or.inl (by first | exact h | omega)))))); exact Or.inr (Or.inr (Or.inr (Or.inr (Or.inr (Or.inr (by first | exact h | omega)))))))), ri253, (show ((wt_gf σ 108 7).toInt ≤ (wt_gf r250 108 7).toInt ∧ ((wt_gf r250 108 5).toInt ≠ 0 ∨ (wt_gf r250 108 7).toInt = (wt_gf σ 108 7).toInt + 1)) from by omega)⟩
set_option maxRecDepth 100000 in
set_option maxHeartbeats 4000000 in
theorem wq_md_clearsCase (n : Nat) (hn : 4294967297 < n) (σ : wt_St) (r0 : wt_RI σ) : wt_T (wp_md_clearsCase n σ) (fun q => wt_fr (fun i k => (i = 108 ∧ k = 24)) (fun i => i = 118 ∨ i = 110 ∨ i = 112 ∨ i = 114 ∨ i = 116) σ q ∧ wt_RI q) := by
  unfold wp_md_clearsCase
  have k7 : (0 : Int32).toInt = 0 := by decide
  refine wt_T_it (fun s : Int32 × wt_St => wt_fr (fun i k => False) (fun i => i = 110 ∨ i = 112 ∨ i = 114 ∨ i = 116) σ s.2 ∧ 0 ≤ (s.1).toInt ∧ wt_RI s.2) (fun s : Int32 × wt_St => ((26 : Int32).toInt - s.1.toInt + 0).toNat) (fun KK1 z2 I3 hKK1 => ?_) _ _ ?_ ?_
  · skip
    obtain ⟨l4, l5, l6⟩ := I3
    unfold wp_md_clearsCase_B2
    have k8 : (26 : Int32).toInt = 26 := by decide
    have bb9 := wt_bd z2.1
    refine wt_T_if (fun h10 => ?_) (fun h10 => ?_)
    · skip
      have c11 := wt_cle h10
      refine wt_T_it (fun s : Int32 × wt_St => wt_fr (fun i k => False) (fun i => i = 118) z2.2 s.2 ∧ 0 ≤ (s.1).toInt ∧ wt_RI s.2) (fun s : Int32 × wt_St => ((4 : Int32).toInt - s.1.toInt + 0).toNat) (fun KK12 z13 I14 hKK12 => ?_) _ _ ?_ ?_
      · skip
        obtain ⟨l15, l16, l17⟩ := I14
        unfold wp_md_clearsCase_B44
        have k18 : (4 : Int32).toInt = 4 := by decide
        have bb19 := wt_bd z13.1
        refine wt_T_if (fun h20 => ?_) (fun h20 => ?_)
        · skip
          have c21 := wt_cle h20
          obtain ⟨σ22, eσ22⟩ : ∃ z : wt_St, z = wt_sf z13.2 108 24 (0 : Int32) := ⟨_, rfl⟩
          rw [← eσ22]
          have fσ22 := wt_fr_sf eσ22
          have vσ22 := wt_ceq (wt_v_sf eσ22)
          have rσ22 := wt_RI_fno l17 eσ22 (Or.inr (by decide +kernel))
          refine wt_T_some ?_
          exact ⟨(wt_fr.tr (wt_fr.tr (wt_fr.tr wt_fr.rf l4 (fun i k h => h.elim) (fun i h => by (try dsimp only at h); rcases h with h | h | h | h; exact Or.inr (Or.inl (by first | exact h | omega)); exact Or.inr (Or.inr (Or.inl (by first | exact h | omega))); exact Or.inr (Or.inr (Or.inr (Or.inl (by first | exact h | omega)))); exact Or.inr (Or.inr (Or.inr (Or.inr (by first | exact h | omega)))))) l15 (fun i k h => h.elim) (fun i h => by (try dsimp only at h); exact Or.inl (by first | exact h | omega))) fσ22 (fun i k h => by (try dsimp only at h); exact (by first | exact h | omega)) (fun i h => h.elim)), rσ22⟩
        · skip
          have c23 := wt_ncle h20
          refine wt_T_gd (wt_ix (by first | with_reducible assumption | omega) (by first | with_reducible assumption | omega)) ?_
          obtain ⟨σ24, eσ24⟩ : ∃ z : wt_St, z = wt_sa z13.2 118 (Int32.toNatClampNeg z13.1) (0 : Int32) := ⟨_, rfl⟩
          rw [← eσ24]
          have fσ24 := wt_fr_sa eσ24
          have vσ24 := wt_ceq (wt_v_sa eσ24)
          have bb25 := wt_tn z13.1
          have rσ24 := wt_RI_no l17 eσ24 118 119 (by decide +kernel) (by decide) (by decide)
          refine hKK12 _ ⟨(wt_fr.tr (wt_fr.tr wt_fr.rf l15 (fun i k h => h.elim) (fun i h => by (try dsimp only at h); exact (by first | exact h | omega))) fσ24 (fun i k h => h.elim) (fun i h => by (try dsimp only at h); exact (by first | exact h | omega))), (wt_nn (B := (4 : Int32)) (by first | with_reducible assumption | omega) (by first | with_reducible assumption | omega)), rσ24⟩ ?_
          show ((4 : Int32).toInt - (z13.1 + (1 : Int32)).toInt + 0).toNat < ((4 : Int32).toInt - z13.1.toInt + 0).toNat
          exact wt_mu (by first | with_reducible assumption | omega) (by first | with_reducible assumption | omega)
      · skip
        have k26 : (4 : Int32).toInt = 4 := by decide
        exact ⟨wt_fr.rf, (show 0 ≤ ((0 : Int32)).toInt by omega), l6⟩
      · skip
        have k27 : (4 : Int32).toInt = 4 := by decide
        show ((4 : Int32).toInt - (0 : Int32).toInt + 0).toNat < n
        omega
    · skip
      have c28 := wt_ncle h10
      refine wt_T_gd (wt_ix (by first | with_reducible assumption | omega) (by first | with_reducible assumption | omega)) ?_
      refine wt_T_gd (wt_ix (by first | with_reducible assumption | omega) (by first | with_reducible assumption | omega)) ?_
      refine wt_T_gd (wt_ix (by first | with_reducible assumption | omega) (by first | with_reducible assumption | omega)) ?_
      refine wt_T_gd (wt_ix (by first | with_reducible assumption | omega) (by first | with_reducible assumption | omega)) ?_
      obtain ⟨σ29, eσ29⟩ : ∃ z : wt_St, z = wt_sa z2.2 110 (Int32.toNatClampNeg z2.1) (0 : Int32) := ⟨_, rfl⟩
      rw [← eσ29]
      have fσ29 := wt_fr_sa eσ29
      have vσ29 := wt_ceq (wt_v_sa eσ29)
      have bb30 := wt_tn z2.1
      have rσ29 := wt_Rn0 l6 eσ29 (by decide) (by decide) (show 0 ≤ ((0 : Int32)).toInt by omega) (show ((0 : Int32)).toInt ≤ 12 by omega)
      obtain ⟨σ31, eσ31⟩ : ∃ z : wt_St, z = wt_sa σ29 112 (Int32.toNatClampNeg z2.1) (0 : Int32) := ⟨_, rfl⟩
      rw [← eσ31]
      have fσ31 := wt_fr_sa eσ31
      have vσ31 := wt_ceq (wt_v_sa eσ31)
      have rσ31 := wt_Rn2 rσ29 eσ31 (by decide) (by decide) (show 0 ≤ ((0 : Int32)).toInt by omega) (show ((0 : Int32)).toInt ≤ 12 by omega)
      obtain ⟨σ32, eσ32⟩ : ∃ z : wt_St, z = wt_sa σ31 114 (Int32.toNatClampNeg z2.1) (1 : Int32) := ⟨_, rfl⟩
      rw [← eσ32]
      have fσ32 := wt_fr_sa eσ32
      have vσ32 := wt_ceq (wt_v_sa eσ32)
      have k33 : (1 : Int32).toInt = 1 := by decide
      have rσ32 := wt_Rn18 rσ31 eσ32 (by decide) (by decide) (show 0 ≤ ((1 : Int32)).toInt by omega) (show ((1 : Int32)).toInt ≤ 99 by omega)
      obtain ⟨σ34, eσ34⟩ : ∃ z : wt_St, z = wt_sa σ32 116 (Int32.toNatClampNeg z2.1) (-1 : Int32) := ⟨_, rfl⟩
      rw [← eσ34]
      have fσ34 := wt_fr_sa eσ34
      have vσ34 := wt_ceq (wt_v_sa eσ34)
      have rσ34 := wt_RI_no rσ32 eσ34 116 117 (by decide +kernel) (by decide) (by decide)
      refine hKK1 _ ⟨(wt_fr.tr (wt_fr.tr (wt_fr.tr (wt_fr.tr (wt_fr.tr wt_fr.rf l4 (fun i k h => h.elim) (fun i h => by (try dsimp only at h); rcases h with h | h | h | h; exact Or.inl (by first | exact h | omega); exact Or.inr (Or.inl (by first | exact h | omega)); exact Or.inr (Or.inr (Or.inl (by first | exact h | omega))); exact Or.inr (Or.inr (Or.inr (by first | exact h | omega))))) fσ29 (fun i k h => h.elim) (fun i h => by (try dsimp only at h); exact Or.inl (by first | exact h | omega))) fσ31 (fun i k h => h.elim) (fun i h => by (try dsimp only at h); exact Or.inr (Or.inl (by first | exact h | omega)))) fσ32 (fun i k h => h.elim) (fun i h => by (try dsimp only at h); exact Or.inr (Or.inr (Or.inl (by first | exact h | omega))))) fσ34 (fun i k h => h.elim) (fun i h => by (try dsimp only at h); exact Or.inr (Or.inr (Or.inr (by first | exact h | omega))))), (wt_nn (B := (26 : Int32)) (by first | with_reducible assumption | omega) (by first | with_reducible assumption | omega)), rσ34⟩ ?_
      show ((26 : Int32).toInt - (z2.1 + (1 : Int32)).toInt + 0).toNat < ((26 : Int32).toInt - z2.1.toInt + 0).toNat
      exact wt_mu (by first | with_reducible assumption | omega) (by first | with_reducible assumption | omega)
  · skip
    have k35 : (26 : Int32).toInt = 26 := by decide
    exact ⟨wt_fr.rf, (show 0 ≤ ((0 : Int32)).toInt by omega), r0⟩
  · skip
    have k36 : (26 : Int32).toInt = 26 := by decide
    show ((26 : Int32).toInt - (0 : Int32).toInt + 0).toNat < n
    omega
set_option maxRecDepth 100000 in
set_option maxHeartbeats 4000000 in
theorem wq_md_count (n : Nat) (hn : 4294967297 < n) (x1 : Int32) (σ : wt_St) (r0 : wt_RI σ) : wt_T (wp_md_count n x1 σ) (fun q => wt_fr (fun i k => (i = 108 ∧ k = 0)) (fun i => False) σ q.2 ∧ wt_RI q.2) := by
  have bb1 := wt_bd x1
  unfold wp_md_count
  have k2 : (0 : Int32).toInt = 0 := by decide
  refine wt_T_if (fun h3 => ?_) (fun h3 => ?_)
  · skip
    have c4 := wt_ceq h3
    obtain ⟨σ5, eσ5⟩ : ∃ z : wt_St, z = wt_sf σ 108 0 (0 : Int32) := ⟨_, rfl⟩
    rw [← eσ5]
    have fσ5 := wt_fr_sf eσ5
    have vσ5 := wt_ceq (wt_v_sf eσ5)
    have rσ5 := wt_RI_fno r0 eσ5 (Or.inr (by decide +kernel))
    refine wt_T_some ?_
    exact ⟨(wt_fr.tr wt_fr.rf fσ5 (fun i k h => by (try dsimp only at h); exact (by first | exact h | omega)) (fun i h => h.elim)), rσ5⟩
  · skip
    have c6 := wt_nceq h3
    have k7 : (1 : Int32).toInt = 1 := by decide
    refine wt_T_if (fun h8 => ?_) (fun h8 => ?_)
    · skip
      have c9 := wt_ceq h8
      obtain ⟨σ10, eσ10⟩ : ∃ z : wt_St, z = wt_sf σ 108 0 (0 : Int32) := ⟨_, rfl⟩
      rw [← eσ10]
      have fσ10 := wt_fr_sf eσ10
      have vσ10 := wt_ceq (wt_v_sf eσ10)
      have rσ10 := wt_RI_fno r0 eσ10 (Or.inr (by decide +kernel))
      refine wt_T_some ?_
      exact ⟨(wt_fr.tr wt_fr.rf fσ10 (fun i k h => by (try dsimp only at h); exact (by first | exact h | omega)) (fun i h => h.elim)), rσ10⟩
    · skip
      have c11 := wt_nceq h8
      obtain ⟨σ12, eσ12⟩ : ∃ z : wt_St, z = wt_sf σ 108 0 (0 : Int32) := ⟨_, rfl⟩
      rw [← eσ12]
      have fσ12 := wt_fr_sf eσ12
      have vσ12 := wt_ceq (wt_v_sf eσ12)
      have rσ12 := wt_RI_fno r0 eσ12 (Or.inr (by decide +kernel))
      refine wt_T_some ?_
      exact ⟨(wt_fr.tr wt_fr.rf fσ12 (fun i k h => by (try dsimp only at h); exact (by first | exact h | omega)) (fun i h => h.elim)), rσ12⟩
set_option maxRecDepth 100000 in
set_option maxHeartbeats 4000000 in
theorem wq_md_nextPiece (n : Nat) (hn : 4294967297 < n) (x1 : Int32) (x2 : Int32) (σ : wt_St) (r0 : wt_RI σ) (p0 : 0 ≤ x1.toInt) (p1 : x1.toInt ≤ 25) : wt_T (wp_md_nextPiece n x1 x2 σ) (fun q => q.2 = σ ∧ (q.1.toInt = -1 ∨ (0 ≤ q.1.toInt ∧ q.1.toInt ≤ 337))) := by
  have bb1 := wt_bd x1
  have bb2 := wt_bd x2
  unfold wp_md_nextPiece
  have k9 : (0 : Int32).toInt = 0 := by decide
  refine wt_T_it (fun s : Int32 × Int32 × wt_St => s.2.2 = σ ∧ 0 ≤ (s.2.1).toInt ∧ (s.1.toInt = -1 ∨ (0 ≤ s.1.toInt ∧ s.1.toInt ≤ 337))) (fun s : Int32 × Int32 × wt_St => ((wt_ga s.2.2 111 (Int32.toNatClampNeg x1)).toInt - s.2.1.toInt + 0).toNat) (fun KK3 z4 I5 hKK3 => ?_) _ _ ?_ ?_
  · skip
    obtain ⟨l6, l7, l8⟩ := I5
    unfold wp_md_nextPiece_B5
    rw [l6]
    have bb10 := wt_tn x1
    have g12 : 0 ≤ (wt_ga σ 111 (Int32.toNatClampNeg x1)).toInt ∧ (wt_ga σ 111 (Int32.toNatClampNeg x1)).toInt ≤ 13 := wt_Ra1 r0 111 (by decide) (by decide) (Int32.toNatClampNeg x1)
    have bb13 := wt_bd z4.2.1
    refine wt_T_gd (wt_ix (by first | with_reducible assumption | omega) (by first | with_reducible assumption | omega)) ?_
    refine wt_T_if (fun h14 => ?_) (fun h14 => ?_)
    · skip
      have c15 := wt_cle h14
      refine wt_T_some ?_
      have bb16 := wt_bd z4.1
      exact ⟨rfl, (show (z4.1.toInt = -1 ∨ (0 ≤ z4.1.toInt ∧ z4.1.toInt ≤ 337)) from by omega)⟩
    · skip
      have c17 := wt_ncle h14
      refine wt_T_bi (wq_md_cell n hn x1 z4.2.1 σ r0 (by first | with_reducible assumption | omega) (by first | with_reducible assumption | omega) (by first | with_reducible assumption | omega) (by first | with_reducible assumption | omega)) (fun r18 h19 => ?_)
      obtain ⟨e20, pp21⟩ := h19
      have bb22 := wt_bd r18.1
      rw [e20]
      refine wt_T_gd (wt_ix (by first | with_reducible assumption | omega) (by first | with_reducible assumption | omega)) ?_
      have bb23 := wt_tn r18.1
      have bb24 := wt_bd (wt_ga σ 124 (Int32.toNatClampNeg r18.1))
      refine wt_T_if (fun h25 => ?_) (fun h25 => ?_)
      · skip
        have c26 := wt_ceq h25
        rw [wt_lm1] at c26
        refine wt_T_gd (wt_ix (by first | with_reducible assumption | omega) (by first | with_reducible assumption | omega)) ?_
        have g28 : 0 ≤ (wt_ga σ 121 (Int32.toNatClampNeg r18.1)).toInt ∧ (wt_ga σ 121 (Int32.toNatClampNeg r18.1)).toInt ≤ 400 := wt_Ra3 r0 121 (by decide) (by decide) (Int32.toNatClampNeg r18.1)
        refine wt_T_if (fun h29 => ?_) (fun h29 => ?_)
        · skip
          have c30 := wt_cle h29
          have bb31 := wt_bd z4.1
          refine wt_T_if (fun h32 => ?_) (fun h32 => ?_)
          · skip
            have c33 := wt_ceq h32
            rw [wt_lm1] at c33
            unfold wp_md_nextPiece_B96
            unfold wp_md_nextPiece_B99
            have k34 : (1 : Int32).toInt = 1 := by decide
            obtain ⟨j35, j35a, j35b⟩ := wt_addI z4.2.1 (1 : Int32)
            refine hKK3 _ ⟨rfl, (wt_nn (B := wt_ga z4.2.2 111 (Int32.toNatClampNeg x1)) (by first | with_reducible assumption | omega) (by first | (rw [l6]; omega) | (rw [l6]; done) | omega)), (show (r18.1.toInt = -1 ∨ (0 ≤ r18.1.toInt ∧ r18.1.toInt ≤ 337)) by omega)⟩ ?_
            show ((wt_ga σ 111 (Int32.toNatClampNeg x1)).toInt - (z4.2.1 + (1 : Int32)).toInt + 0).toNat < ((wt_ga z4.2.2 111 (Int32.toNatClampNeg x1)).toInt - z4.2.1.toInt + 0).toNat
            exact wt_mu (by first | (rw [l6]; omega) | (rw [l6]; done) | omega) (by first | (rw [l6]; omega) | (rw [l6]; done) | omega)
          · skip
            have c36 := wt_nceq h32
            rw [wt_lm1] at c36
            have bb37 := wt_bd (wt_gf σ 108 26)
            refine wt_T_if (fun h38 => ?_) (fun h38 => ?_)
            · skip
              have c39 := wt_ceq h38
              refine wt_T_gd (wt_ix (by first | with_reducible assumption | omega) (by first | with_reducible assumption | omega)) ?_
              refine wt_T_gd (wt_ix (by first | with_reducible assumption | omega) (by first | with_reducible assumption | omega)) ?_
              have bb40 := wt_tn z4.1
              have g42 : 0 ≤ (wt_ga σ 121 (Int32.toNatClampNeg z4.1)).toInt ∧ (wt_ga σ 121 (Int32.toNatClampNeg z4.1)).toInt ≤ 400 := wt_Ra3 r0 121 (by decide) (by decide) (Int32.toNatClampNeg z4.1)
              refine wt_T_if (fun h43 => ?_) (fun h43 => ?_)
              · skip
                have c44 := wt_cle h43
                unfold wp_md_nextPiece_B99
                have k45 : (1 : Int32).toInt = 1 := by decide
                obtain ⟨j46, j46a, j46b⟩ := wt_addI z4.2.1 (1 : Int32)
                refine hKK3 _ ⟨rfl, (wt_nn (B := wt_ga z4.2.2 111 (Int32.toNatClampNeg x1)) (by first | with_reducible assumption | omega) (by first | (rw [l6]; omega) | (rw [l6]; done) | omega)), (show (z4.1.toInt = -1 ∨ (0 ≤ z4.1.toInt ∧ z4.1.toInt ≤ 337)) by omega)⟩ ?_
                show ((wt_ga σ 111 (Int32.toNatClampNeg x1)).toInt - (z4.2.1 + (1 : Int32)).toInt + 0).toNat < ((wt_ga z4.2.2 111 (Int32.toNatClampNeg x1)).toInt - z4.2.1.toInt + 0).toNat
                exact wt_mu (by first | (rw [l6]; omega) | (rw [l6]; done) | omega) (by first | (rw [l6]; omega) | (rw [l6]; done) | omega)
              · skip
                have c47 := wt_ncle h43
                unfold wp_md_nextPiece_B96
                unfold wp_md_nextPiece_B99
                have k48 : (1 : Int32).toInt = 1 := by decide
                obtain ⟨j49, j49a, j49b⟩ := wt_addI z4.2.1 (1 : Int32)
                refine hKK3 _ ⟨rfl, (wt_nn (B := wt_ga z4.2.2 111 (Int32.toNatClampNeg x1)) (by first | with_reducible assumption | omega) (by first | (rw [l6]; omega) | (rw [l6]; done) | omega)), (show (r18.1.toInt = -1 ∨ (0 ≤ r18.1.toInt ∧ r18.1.toInt ≤ 337)) by omega)⟩ ?_
                show ((wt_ga σ 111 (Int32.toNatClampNeg x1)).toInt - (z4.2.1 + (1 : Int32)).toInt + 0).toNat < ((wt_ga z4.2.2 111 (Int32.toNatClampNeg x1)).toInt - z4.2.1.toInt + 0).toNat
                exact wt_mu (by first | (rw [l6]; omega) | (rw [l6]; done) | omega) (by first | (rw [l6]; omega) | (rw [l6]; done) | omega)
            · skip
              have c50 := wt_nceq h38
              refine wt_T_gd (wt_ix (by first | with_reducible assumption | omega) (by first | with_reducible assumption | omega)) ?_
              refine wt_T_gd (wt_ix (by first | with_reducible assumption | omega) (by first | with_reducible assumption | omega)) ?_
              have bb51 := wt_tn z4.1
              have g53 : 0 ≤ (wt_ga σ 121 (Int32.toNatClampNeg z4.1)).toInt ∧ (wt_ga σ 121 (Int32.toNatClampNeg z4.1)).toInt ≤ 400 := wt_Ra3 r0 121 (by decide) (by decide) (Int32.toNatClampNeg z4.1)
              refine wt_T_if (fun h54 => ?_) (fun h54 => ?_)
              · skip
                have c55 := wt_cle h54
                unfold wp_md_nextPiece_B99
                have k56 : (1 : Int32).toInt = 1 := by decide
                obtain ⟨j57, j57a, j57b⟩ := wt_addI z4.2.1 (1 : Int32)
                refine hKK3 _ ⟨rfl, (wt_nn (B := wt_ga z4.2.2 111 (Int32.toNatClampNeg x1)) (by first | with_reducible assumption | omega) (by first | (rw [l6]; omega) | (rw [l6]; done) | omega)), (show (z4.1.toInt = -1 ∨ (0 ≤ z4.1.toInt ∧ z4.1.toInt ≤ 337)) by omega)⟩ ?_
                show ((wt_ga σ 111 (Int32.toNatClampNeg x1)).toInt - (z4.2.1 + (1 : Int32)).toInt + 0).toNat < ((wt_ga z4.2.2 111 (Int32.toNatClampNeg x1)).toInt - z4.2.1.toInt + 0).toNat
                exact wt_mu (by first | (rw [l6]; omega) | (rw [l6]; done) | omega) (by first | (rw [l6]; omega) | (rw [l6]; done) | omega)
              · skip
                have c58 := wt_ncle h54
                unfold wp_md_nextPiece_B96
                unfold wp_md_nextPiece_B99
                have k59 : (1 : Int32).toInt = 1 := by decide
                obtain ⟨j60, j60a, j60b⟩ := wt_addI z4.2.1 (1 : Int32)
                refine hKK3 _ ⟨rfl, (wt_nn (B := wt_ga z4.2.2 111 (Int32.toNatClampNeg x1)) (by first | with_reducible assumption | omega) (by first | (rw [l6]; omega) | (rw [l6]; done) | omega)), (show (r18.1.toInt = -1 ∨ (0 ≤ r18.1.toInt ∧ r18.1.toInt ≤ 337)) by omega)⟩ ?_
                show ((wt_ga σ 111 (Int32.toNatClampNeg x1)).toInt - (z4.2.1 + (1 : Int32)).toInt + 0).toNat < ((wt_ga z4.2.2 111 (Int32.toNatClampNeg x1)).toInt - z4.2.1.toInt + 0).toNat
                exact wt_mu (by first | (rw [l6]; omega) | (rw [l6]; done) | omega) (by first | (rw [l6]; omega) | (rw [l6]; done) | omega)
        · skip
          have c61 := wt_ncle h29
          unfold wp_md_nextPiece_B99
          have bb62 := wt_bd z4.1
          have k63 : (1 : Int32).toInt = 1 := by decide
          obtain ⟨j64, j64a, j64b⟩ := wt_addI z4.2.1 (1 : Int32)
          refine hKK3 _ ⟨rfl, (wt_nn (B := wt_ga z4.2.2 111 (Int32.toNatClampNeg x1)) (by first | with_reducible assumption | omega) (by first | (rw [l6]; omega) | (rw [l6]; done) | omega)), (show (z4.1.toInt = -1 ∨ (0 ≤ z4.1.toInt ∧ z4.1.toInt ≤ 337)) by omega)⟩ ?_
          show ((wt_ga σ 111 (Int32.toNatClampNeg x1)).toInt - (z4.2.1 + (1 : Int32)).toInt + 0).toNat < ((wt_ga z4.2.2 111 (Int32.toNatClampNeg x1)).toInt - z4.2.1.toInt + 0).toNat
          exact wt_mu (by first | (rw [l6]; omega) | (rw [l6]; done) | omega) (by first | (rw [l6]; omega) | (rw [l6]; done) | omega)
      · skip
        have c65 := wt_nceq h25
        rw [wt_lm1] at c65
        unfold wp_md_nextPiece_B99
        have bb66 := wt_bd z4.1
        have k67 : (1 : Int32).toInt = 1 := by decide
        obtain ⟨j68, j68a, j68b⟩ := wt_addI z4.2.1 (1 : Int32)
        refine hKK3 _ ⟨rfl, (wt_nn (B := wt_ga z4.2.2 111 (Int32.toNatClampNeg x1)) (by first | with_reducible assumption | omega) (by first | (rw [l6]; omega) | (rw [l6]; done) | omega)), (show (z4.1.toInt = -1 ∨ (0 ≤ z4.1.toInt ∧ z4.1.toInt ≤ 337)) by omega)⟩ ?_
        show ((wt_ga σ 111 (Int32.toNatClampNeg x1)).toInt - (z4.2.1 + (1 : Int32)).toInt + 0).toNat < ((wt_ga z4.2.2 111 (Int32.toNatClampNeg x1)).toInt - z4.2.1.toInt + 0).toNat
        exact wt_mu (by first | (rw [l6]; omega) | (rw [l6]; done) | omega) (by first | (rw [l6]; omega) | (rw [l6]; done) | omega)
  · skip
    have bb69 := wt_tn x1
    have g71 : 0 ≤ (wt_ga σ 111 (Int32.toNatClampNeg x1)).toInt ∧ (wt_ga σ 111 (Int32.toNatClampNeg x1)).toInt ≤ 13 := wt_Ra1 r0 111 (by decide) (by decide) (Int32.toNatClampNeg x1)
    have k72 := wt_lm1
    exact ⟨rfl, (show 0 ≤ ((0 : Int32)).toInt by omega), (show ((-1 : Int32).toInt = -1 ∨ (0 ≤ (-1 : Int32).toInt ∧ (-1 : Int32).toInt ≤ 337)) by omega)⟩
  · skip
    have bb73 := wt_tn x1
    have g75 : 0 ≤ (wt_ga σ 111 (Int32.toNatClampNeg x1)).toInt ∧ (wt_ga σ 111 (Int32.toNatClampNeg x1)).toInt ≤ 13 := wt_Ra1 r0 111 (by decide) (by decide) (Int32.toNatClampNeg x1)
    show ((wt_ga σ 111 (Int32.toNatClampNeg x1)).toInt - (0 : Int32).toInt + 0).toNat < n
    omega
