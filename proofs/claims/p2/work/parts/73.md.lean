theorem wq_md_allPieces (n : Nat) (hn : 4294967297 < n) (σ : wt_St) (r0 : wt_RI σ) : wt_T (wp_md_allPieces n σ) (fun q => q.2 = σ) := by sorry
theorem wq_md_bad (n : Nat) (hn : 4294967297 < n) (x1 : Int32) (x2 : Int32) (σ : wt_St) (r0 : wt_RI σ) (p0 : x2.toInt ≠ 0) : wt_T (wp_md_bad n x1 x2 σ) (fun q => wt_fr (fun i k => (i = 108 ∧ k = 0)) (fun i => False) σ q.2 ∧ wt_RI q.2 ∧ ((q.1.toInt = 0 ∧ x1.toInt = 0 ∧ (wt_gf q.2 108 0).toInt = 0) ∨ (q.1.toInt = 1 ∧ (x1.toInt ≠ 0 ∨ (wt_gf σ 108 0).toInt ≠ 0)))) := by sorry
theorem wq_md_in (n : Nat) (hn : 4294967297 < n) (x0 : Int32) (x1 : Int32) (x2 : Int32) (σ : wt_St) (r0 : wt_RI σ) : wt_T (wp_md_in n x0 x1 x2 σ) (fun q => q.2 = σ ∧ ((q.1.toInt = 0 ∧ (x0.toInt < x1.toInt ∨ x2.toInt < x0.toInt)) ∨ (q.1.toInt = 1 ∧ x1.toInt ≤ x0.toInt ∧ x0.toInt ≤ x2.toInt))) := by sorry
theorem wq_md_isPage (n : Nat) (hn : 4294967297 < n) (x1 : Int32) (σ : wt_St) (r0 : wt_RI σ) : wt_T (wp_md_isPage n x1 σ) (fun q => q.2 = σ ∧ (q.1.toInt = 0 ∨ (q.1.toInt = 1 ∧ 0 ≤ x1.toInt ∧ x1.toInt ≤ 3 ∧ (wt_ga σ 275 (Int32.toNatClampNeg x1)).toInt ≠ -1))) := by sorry
theorem wq_md_takesApart (n : Nat) (hn : 4294967297 < n) (x1 : Int32) (σ : wt_St) (r0 : wt_RI σ) (p0 : 0 ≤ x1.toInt) (p1 : x1.toInt ≤ 3) : wt_T (wp_md_takesApart n x1 σ) (fun q => wt_fr (fun i k => False) (fun i => i = 275 ∨ i = 124) σ q ∧ wt_RI q) := by sorry
theorem wq_md_apart (n : Nat) (hn : 4294967297 < n) (x1 : Int32) (σ : wt_St) (r0 : wt_RI σ) : wt_T (wp_md_apart n x1 σ) (fun q => wt_fr (fun i k => (i = 108 ∧ k = 0)) (fun i => i = 275 ∨ i = 124) σ q.2 ∧ wt_RI q.2) := by sorry
theorem wq_md_isText (n : Nat) (hn : 4294967297 < n) (x1 : Int32) (σ : wt_St) (r0 : wt_RI σ) : wt_T (wp_md_isText n x1 σ) (fun q => q.2 = σ ∧ (q.1.toInt = 0 ∨ (q.1.toInt = 1 ∧ 0 ≤ x1.toInt ∧ x1.toInt < (wt_gf σ 108 39).toInt))) := by sorry
theorem wq_md_at (n : Nat) (hn : 4294967297 < n) (x1 : Int32) (x2 : Int32) (σ : wt_St) (r0 : wt_RI σ) : wt_T (wp_md_at n x1 x2 σ) (fun q => wt_fr (fun i k => (i = 108 ∧ k = 0)) (fun i => False) σ q.2 ∧ wt_RI q.2) := by sorry
theorem wq_md_byteAt (n : Nat) (hn : 4294967297 < n) (x1 : Int32) (σ : wt_St) (r0 : wt_RI σ) (p0 : 0 ≤ x1.toInt) : wt_T (wp_md_byteAt n x1 σ) (fun q => q.2 = σ ∧ ((q.1.toInt = -1 ∧ (wt_gf σ 108 2).toInt ≤ x1.toInt) ∨ (x1.toInt < (wt_gf σ 108 2).toInt ∧ q.1.toInt = (wt_ga σ 109 (Int32.toNatClampNeg x1)).toInt))) := by sorry
theorem wq_md_blanks (n : Nat) (hn : 4294967297 < n) (σ : wt_St) (r0 : wt_RI σ) : wt_T (wp_md_blanks n σ) (fun q => wt_fr (fun i k => (i = 108 ∧ k = 4)) (fun i => False) σ q ∧ wt_RI q ∧ (wt_gf σ 108 4).toInt ≤ (wt_gf q 108 4).toInt) := by sorry
theorem wq_md_cell (n : Nat) (hn : 4294967297 < n) (x0 : Int32) (x1 : Int32) (σ : wt_St) (r0 : wt_RI σ) (p0 : 0 ≤ x0.toInt) (p1 : x0.toInt ≤ 25) (p2 : 0 ≤ x1.toInt) (p3 : x1.toInt ≤ 12) : wt_T (wp_md_cell n x0 x1 σ) (fun q => q.2 = σ ∧ q.1.toInt = 13 * x0.toInt + x1.toInt) := by sorry
theorem wq_md_needsNone (n : Nat) (hn : 4294967297 < n) (σ : wt_St) (r0 : wt_RI σ) : wt_T (wp_md_needsNone n σ) (fun q => wt_fr (fun i k => False) (fun i => i = 287) σ q ∧ wt_RI q) := by sorry
theorem wq_md_needsWord (n : Nat) (hn : 4294967297 < n) (x1 : Int32) (σ : wt_St) (r0 : wt_RI σ) (p0 : 0 ≤ x1.toInt) (p1 : x1.toInt ≤ 59) : wt_T (wp_md_needsWord n x1 σ) (fun q => wt_fr (fun i k => False) (fun i => i = 287) σ q ∧ wt_RI q) := by sorry
theorem wq_md_needsText (n : Nat) (hn : 4294967297 < n) (x1 : Int32) (σ : wt_St) (r0 : wt_RI σ) (p0 : 0 ≤ x1.toInt) (p1 : x1.toInt ≤ 7) : wt_T (wp_md_needsText n x1 σ) (fun q => wt_fr (fun i k => False) (fun i => i = 287) σ q ∧ wt_RI q) := by sorry
theorem wq_md_goodFor (n : Nat) (hn : 4294967297 < n) (x1 : Int32) (x2 : Int32) (σ : wt_St) (r0 : wt_RI σ) (p0 : 0 ≤ x1.toInt) (p1 : x1.toInt ≤ 25) : wt_T (wp_md_goodFor n x1 x2 σ) (fun q => q.2 = σ) := by sorry
theorem wq_md_lacking (n : Nat) (hn : 4294967297 < n) (x1 : Int32) (σ : wt_St) (r0 : wt_RI σ) : wt_T (wp_md_lacking n x1 σ) (fun q => q.2 = σ ∧ (q.1.toInt = -1 ∨ (0 ≤ q.1.toInt ∧ q.1.toInt ≤ 25))) := by sorry
theorem wq_md_often (n : Nat) (hn : 4294967297 < n) (σ : wt_St) (r0 : wt_RI σ) : wt_T (wp_md_often n σ) (fun q => q.2 = σ ∧ (0 ≤ q.1.toInt ∧ q.1.toInt ≤ 400)) := by sorry
theorem wq_md_can (n : Nat) (hn : 4294967297 < n) (x1 : Int32) (σ : wt_St) (r0 : wt_RI σ) : wt_T (wp_md_can n x1 σ) (fun q => wt_fr (fun i k => (i = 108 ∧ k = 0)) (fun i => i = 287) σ q.2 ∧ wt_RI q.2) := by sorry
theorem wq_md_canWord (n : Nat) (hn : 4294967297 < n) (x1 : Int32) (σ : wt_St) (r0 : wt_RI σ) (p0 : 0 ≤ x1.toInt) (p1 : x1.toInt ≤ 59) : wt_T (wp_md_canWord n x1 σ) (fun q => wt_fr (fun i k => False) (fun i => i = 287) σ q.2 ∧ wt_RI q.2 ∧ (0 ≤ q.1.toInt ∧ q.1.toInt ≤ 400)) := by sorry
theorem wq_md_isCopies (n : Nat) (hn : 4294967297 < n) (x0 : Int32) (σ : wt_St) (r0 : wt_RI σ) : wt_T (wp_md_isCopies n x0 σ) (fun q => q.2 = σ ∧ ((q.1.toInt = 0 ∧ (x0.toInt < 1 ∨ 400 < x0.toInt)) ∨ (q.1.toInt = 1 ∧ 1 ≤ x0.toInt ∧ x0.toInt ≤ 400))) := by sorry
set_option maxRecDepth 100000 in
set_option maxHeartbeats 4000000 in
theorem wq_md_wrong (n : Nat) (hn : 4294967297 < n) (x1 : Int32) (x2 : Int32) (σ : wt_St) (r0 : wt_RI σ) (p0 : 0 < x1.toInt) (p1 : x1.toInt ≤ 3) : wt_T (wp_md_wrong n x1 x2 σ) (fun q => wt_fr (fun i k => (i = 108 ∧ k = 5) ∨ (i = 108 ∧ k = 6)) (fun i => False) σ q ∧ wt_RI q ∧ ((wt_gf q 108 5).toInt ≠ 0)) := by
  have bb1 := wt_bd x1
  have bb2 := wt_bd x2
  unfold wp_md_wrong
  have bb3 := wt_bd (wt_gf σ 108 5)
  have g4 : 0 ≤ (wt_gf σ 108 5).toInt ∧ (wt_gf σ 108 5).toInt ≤ 3 := wt_R_gf r0 3 rfl
  have k5 : (0 : Int32).toInt = 0 := by decide
  refine wt_T_if (fun h6 => ?_) (fun h6 => ?_)
  · skip
    have c7 := wt_ceq h6
    obtain ⟨σ8, eσ8⟩ : ∃ z : wt_St, z = wt_sf σ 108 5 x1 := ⟨_, rfl⟩
    rw [← eσ8]
    have fσ8 := wt_fr_sf eσ8
    have vσ8 := wt_ceq (wt_v_sf eσ8)
    have rσ8 := wt_RI_fin r0 eσ8 3 rfl rfl (show 0 ≤ (x1).toInt by omega) (show (x1).toInt ≤ 3 by omega)
    obtain ⟨σ9, eσ9⟩ : ∃ z : wt_St, z = wt_sf σ8 108 6 x2 := ⟨_, rfl⟩
    rw [← eσ9]
    have fσ9 := wt_fr_sf eσ9
    have vσ9 := wt_ceq (wt_v_sf eσ9)
    have rσ9 := wt_RI_fno rσ8 eσ9 (Or.inr (by decide))
    refine wt_T_some ?_
    have bb10 := wt_bd (wt_gf σ9 108 5)
    have g11 : 0 ≤ (wt_gf σ9 108 5).toInt ∧ (wt_gf σ9 108 5).toInt ≤ 3 := wt_R_gf rσ9 3 rfl
    have tt12 : (wt_gf σ9 108 5).toInt = (wt_gf σ8 108 5).toInt := congrArg Int32.toInt (fσ9.1 108 5 (by (try dsimp only); omega))
    have bb13 := wt_bd (wt_gf σ8 108 5)
    have g14 : 0 ≤ (wt_gf σ8 108 5).toInt ∧ (wt_gf σ8 108 5).toInt ≤ 3 := wt_R_gf rσ8 3 rfl
    exact ⟨(wt_fr.tr (wt_fr.tr wt_fr.rf fσ8 (fun i k h => by (try dsimp only at h); exact Or.inl (by omega)) (fun i h => h.elim)) fσ9 (fun i k h => by (try dsimp only at h); exact Or.inr ((by omega))) (fun i h => h.elim)), rσ9, (show ((wt_gf σ9 108 5).toInt ≠ 0) from by omega)⟩
  · skip
    have c15 := wt_nceq h6
    refine wt_T_some ?_
    exact ⟨wt_fr.rf, r0, (show ((wt_gf σ 108 5).toInt ≠ 0) from by omega)⟩
set_option maxRecDepth 100000 in
set_option maxHeartbeats 4000000 in
theorem wq_md_closes (n : Nat) (hn : 4294967297 < n) (x1 : Int32) (σ : wt_St) (r0 : wt_RI σ) (p0 : 0 ≤ x1.toInt) : wt_T (wp_md_closes n x1 σ) (fun q => wt_fr (fun i k => (i = 108 ∧ k = 4) ∨ (i = 108 ∧ k = 5) ∨ (i = 108 ∧ k = 6)) (fun i => False) σ q ∧ wt_RI q) := by
  have bb1 := wt_bd x1
  unfold wp_md_closes
  have bb2 := wt_bd (wt_gf σ 108 5)
  have g3 : 0 ≤ (wt_gf σ 108 5).toInt ∧ (wt_gf σ 108 5).toInt ≤ 3 := wt_R_gf r0 3 rfl
  have k4 : (0 : Int32).toInt = 0 := by decide
  refine wt_T_if (fun h5 => ?_) (fun h5 => ?_)
  · skip
    have c6 := wt_ceq h5
    refine wt_T_bi (wq_md_blanks n hn σ r0) (fun r7 h8 => ?_)
    obtain ⟨f9, ri10, pp11⟩ := h8
    have bb12 := wt_bd (wt_gf σ 108 4)
    have g13 : 0 ≤ (wt_gf σ 108 4).toInt ∧ (wt_gf σ 108 4).toInt ≤ 500 := wt_R_gf r0 2 rfl
    have bb14 := wt_bd (wt_gf r7 108 4)
    have g15 : 0 ≤ (wt_gf r7 108 4).toInt ∧ (wt_gf r7 108 4).toInt ≤ 500 := wt_R_gf ri10 2 rfl
    refine wt_T_bi (wq_md_byteAt n hn (wt_gf r7 108 4) r7 ri10 (by omega)) (fun r16 h17 => ?_)
    obtain ⟨e18, pp19⟩ := h17
    have bb20 := wt_bd r16.1
    rw [e18]
    have bb21 := wt_bd (wt_gf r7 108 2)
    have g22 : 0 ≤ (wt_gf r7 108 2).toInt ∧ (wt_gf r7 108 2).toInt ≤ 500 := wt_R_gf ri10 1 rfl
    have tt23 : (wt_gf r7 108 2).toInt = (wt_gf σ 108 2).toInt := congrArg Int32.toInt (f9.1 108 2 (by (try dsimp only); omega))
    have bb24 := wt_bd (wt_gf σ 108 2)
    have g25 : 0 ≤ (wt_gf σ 108 2).toInt ∧ (wt_gf σ 108 2).toInt ≤ 500 := wt_R_gf r0 1 rfl
    have bb26 := wt_tn (wt_gf r7 108 4)
    have bb27 := wt_bd (wt_ga r7 109 (Int32.toNatClampNeg (wt_gf r7 108 4)))
    have tt28 : (wt_ga r7 109 (Int32.toNatClampNeg (wt_gf r7 108 4))).toInt = (wt_ga σ 109 (Int32.toNatClampNeg (wt_gf r7 108 4))).toInt := congrArg Int32.toInt (f9.2 109 (fun z => z) (Int32.toNatClampNeg (wt_gf r7 108 4)))
    have bb29 := wt_bd (wt_ga σ 109 (Int32.toNatClampNeg (wt_gf r7 108 4)))
    refine wt_T_if (fun h30 => ?_) (fun h30 => ?_)
    · skip
      have c31 := wt_ceq h30
      obtain ⟨σ32, eσ32⟩ : ∃ z : wt_St, z = wt_sf r7 108 4 ((wt_gf r7 108 4) + (1 : Int32)) := ⟨_, rfl⟩
      rw [← eσ32]
      have fσ32 := wt_fr_sf eσ32
      have vσ32 := wt_ceq (wt_v_sf eσ32)
      have k33 : (1 : Int32).toInt = 1 := by decide
      obtain ⟨j34, j34a, j34b⟩ := wt_addI (wt_gf r7 108 4) (1 : Int32)
      have rσ32 := wt_RI_fin ri10 eσ32 2 rfl rfl (show 0 ≤ ((wt_gf r7 108 4) + (1 : Int32)).toInt by omega) (show ((wt_gf r7 108 4) + (1 : Int32)).toInt ≤ 500 by omega)
      refine wt_T_some ?_
      exact ⟨(wt_fr.tr (wt_fr.tr wt_fr.rf f9 (fun i k h => by (try dsimp only at h); exact Or.inl (by omega)) (fun i h => h.elim)) fσ32 (fun i k h => by (try dsimp only at h); exact Or.inl (by omega)) (fun i h => h.elim)), rσ32⟩
    · skip
      have c35 := wt_nceq h30
      have k36 : (1 : Int32).toInt = 1 := by decide
      refine wt_T_bi (wq_md_wrong n hn (1 : Int32) (wt_gf r7 108 4) r7 ri10 (by omega) (by omega)) (fun r37 h38 => ?_)
      obtain ⟨f39, ri40, pp41⟩ := h38
      have bb42 := wt_bd (wt_gf r37 108 5)
      have g43 : 0 ≤ (wt_gf r37 108 5).toInt ∧ (wt_gf r37 108 5).toInt ≤ 3 := wt_R_gf ri40 3 rfl
      refine wt_T_some ?_
      exact ⟨(wt_fr.tr (wt_fr.tr wt_fr.rf f9 (fun i k h => by (try dsimp only at h); exact Or.inl (by omega)) (fun i h => h.elim)) f39 (fun i k h => by (try dsimp only at h); rcases h with h | h; exact Or.inr (Or.inl (by omega)); exact Or.inr (Or.inr ((by omega)))) (fun i h => h.elim)), ri40⟩
  · skip
    have c44 := wt_nceq h5
    refine wt_T_some ?_
    exact ⟨wt_fr.rf, r0⟩
set_option maxRecDepth 100000 in
set_option maxHeartbeats 4000000 in
theorem wq_md_isSmall (n : Nat) (hn : 4294967297 < n) (x0 : Int32) (σ : wt_St) (r0 : wt_RI σ) : wt_T (wp_md_isSmall n x0 σ) (fun q => q.2 = σ ∧ ((q.1.toInt = 0) ∨ (q.1.toInt = 1 ∧ 97 ≤ x0.toInt ∧ x0.toInt ≤ 122))) := by
  have bb1 := wt_bd x0
  unfold wp_md_isSmall
  have k2 : (97 : Int32).toInt = 97 := by decide
  refine wt_T_if (fun h3 => ?_) (fun h3 => ?_)
  · skip
    have c4 := wt_clt h3
    refine wt_T_some ?_
    have k5 : (0 : Int32).toInt = 0 := by decide
    exact ⟨rfl, (show (((0 : Int32).toInt = 0) ∨ ((0 : Int32).toInt = 1 ∧ 97 ≤ x0.toInt ∧ x0.toInt ≤ 122)) from by omega)⟩
  · skip
    have c6 := wt_ncl h3
    have k7 : (122 : Int32).toInt = 122 := by decide
    refine wt_T_if (fun h8 => ?_) (fun h8 => ?_)
    · skip
      have c9 := wt_clt h8
      refine wt_T_some ?_
      have k10 : (0 : Int32).toInt = 0 := by decide
      exact ⟨rfl, (show (((0 : Int32).toInt = 0) ∨ ((0 : Int32).toInt = 1 ∧ 97 ≤ x0.toInt ∧ x0.toInt ≤ 122)) from by omega)⟩
    · skip
      have c11 := wt_ncl h8
      refine wt_T_some ?_
      have k12 : (1 : Int32).toInt = 1 := by decide
      exact ⟨rfl, (show (((1 : Int32).toInt = 0) ∨ ((1 : Int32).toInt = 1 ∧ 97 ≤ x0.toInt ∧ x0.toInt ≤ 122)) from by omega)⟩
set_option maxRecDepth 100000 in
set_option maxHeartbeats 4000000 in
theorem wq_md_isDigit (n : Nat) (hn : 4294967297 < n) (x0 : Int32) (σ : wt_St) (r0 : wt_RI σ) : wt_T (wp_md_isDigit n x0 σ) (fun q => q.2 = σ ∧ ((q.1.toInt = 0) ∨ (q.1.toInt = 1 ∧ 48 ≤ x0.toInt ∧ x0.toInt ≤ 57))) := by
  have bb1 := wt_bd x0
  unfold wp_md_isDigit
  have k2 : (48 : Int32).toInt = 48 := by decide
  refine wt_T_if (fun h3 => ?_) (fun h3 => ?_)
  · skip
    have c4 := wt_clt h3
    refine wt_T_some ?_
    have k5 : (0 : Int32).toInt = 0 := by decide
    exact ⟨rfl, (show (((0 : Int32).toInt = 0) ∨ ((0 : Int32).toInt = 1 ∧ 48 ≤ x0.toInt ∧ x0.toInt ≤ 57)) from by omega)⟩
  · skip
    have c6 := wt_ncl h3
    have k7 : (57 : Int32).toInt = 57 := by decide
    refine wt_T_if (fun h8 => ?_) (fun h8 => ?_)
    · skip
      have c9 := wt_clt h8
      refine wt_T_some ?_
      have k10 : (0 : Int32).toInt = 0 := by decide
      exact ⟨rfl, (show (((0 : Int32).toInt = 0) ∨ ((0 : Int32).toInt = 1 ∧ 48 ≤ x0.toInt ∧ x0.toInt ≤ 57)) from by omega)⟩
    · skip
      have c11 := wt_ncl h8
      refine wt_T_some ?_
      have k12 : (1 : Int32).toInt = 1 := by decide
      exact ⟨rfl, (show (((1 : Int32).toInt = 0) ∨ ((1 : Int32).toInt = 1 ∧ 48 ≤ x0.toInt ∧ x0.toInt ≤ 57)) from by omega)⟩
set_option maxRecDepth 100000 in
set_option maxHeartbeats 4000000 in
theorem wq_md_number (n : Nat) (hn : 4294967297 < n) (x1 : Int32) (x2 : Int32) (σ : wt_St) (r0 : wt_RI σ) (p0 : 0 ≤ x1.toInt) : wt_T (wp_md_number n x1 x2 σ) (fun q => wt_fr (fun i k => (i = 108 ∧ k = 4) ∨ (i = 108 ∧ k = 5) ∨ (i = 108 ∧ k = 6)) (fun i => False) σ q.2 ∧ wt_RI q.2 ∧ ((q.1.toInt = 0 ∧ (wt_gf q.2 108 5).toInt ≠ 0) ∨ ((wt_gf q.2 108 5).toInt = 0 ∧ x1.toInt ≤ q.1.toInt ∧ q.1.toInt ≤ x2.toInt))) := by
  have bb1 := wt_bd x1
  have bb2 := wt_bd x2
  unfold wp_md_number
  have bb3 := wt_bd (wt_gf σ 108 5)
  have g4 : 0 ≤ (wt_gf σ 108 5).toInt ∧ (wt_gf σ 108 5).toInt ≤ 3 := wt_R_gf r0 3 rfl
  have k5 : (0 : Int32).toInt = 0 := by decide
  refine wt_T_if (fun h6 => ?_) (fun h6 => ?_)
  · skip
    have c7 := wt_ceq h6
    refine wt_T_bi (wq_md_blanks n hn σ r0) (fun r8 h9 => ?_)
    obtain ⟨f10, ri11, pp12⟩ := h9
    have bb13 := wt_bd (wt_gf σ 108 4)
    have g14 : 0 ≤ (wt_gf σ 108 4).toInt ∧ (wt_gf σ 108 4).toInt ≤ 500 := wt_R_gf r0 2 rfl
    have bb15 := wt_bd (wt_gf r8 108 4)
    have g16 : 0 ≤ (wt_gf r8 108 4).toInt ∧ (wt_gf r8 108 4).toInt ≤ 500 := wt_R_gf ri11 2 rfl
    refine wt_T_bi (wq_md_byteAt n hn (wt_gf r8 108 4) r8 ri11 (by omega)) (fun r17 h18 => ?_)
    obtain ⟨e19, pp20⟩ := h18
    have bb21 := wt_bd r17.1
    rw [e19]
    have bb22 := wt_bd (wt_gf r8 108 2)
    have g23 : 0 ≤ (wt_gf r8 108 2).toInt ∧ (wt_gf r8 108 2).toInt ≤ 500 := wt_R_gf ri11 1 rfl
    have tt24 : (wt_gf r8 108 2).toInt = (wt_gf σ 108 2).toInt := congrArg Int32.toInt (f10.1 108 2 (by (try dsimp only); omega))
    have bb25 := wt_bd (wt_gf σ 108 2)
    have g26 : 0 ≤ (wt_gf σ 108 2).toInt ∧ (wt_gf σ 108 2).toInt ≤ 500 := wt_R_gf r0 1 rfl
    have bb27 := wt_tn (wt_gf r8 108 4)
    have bb28 := wt_bd (wt_ga r8 109 (Int32.toNatClampNeg (wt_gf r8 108 4)))
    have tt29 : (wt_ga r8 109 (Int32.toNatClampNeg (wt_gf r8 108 4))).toInt = (wt_ga σ 109 (Int32.toNatClampNeg (wt_gf r8 108 4))).toInt := congrArg Int32.toInt (f10.2 109 (fun z => z) (Int32.toNatClampNeg (wt_gf r8 108 4)))
    have bb30 := wt_bd (wt_ga σ 109 (Int32.toNatClampNeg (wt_gf r8 108 4)))
    refine wt_T_bi (wq_md_isDigit n hn r17.1 r8 ri11) (fun r31 h32 => ?_)
    obtain ⟨e33, pp34⟩ := h32
    have bb35 := wt_bd r31.1
    rw [e33]
    refine wt_T_if (fun h36 => ?_) (fun h36 => ?_)
    · skip
      have c37 := wt_ceq h36
      have k38 : (1 : Int32).toInt = 1 := by decide
      refine wt_T_bi (wq_md_wrong n hn (1 : Int32) (wt_gf r8 108 4) r8 ri11 (by omega) (by omega)) (fun r39 h40 => ?_)
      obtain ⟨f41, ri42, pp43⟩ := h40
      have bb44 := wt_bd (wt_gf r39 108 5)
      have g45 : 0 ≤ (wt_gf r39 108 5).toInt ∧ (wt_gf r39 108 5).toInt ≤ 3 := wt_R_gf ri42 3 rfl
      refine wt_T_it (fun s : Int32 × wt_St => wt_fr (fun i k => (i = 108 ∧ k = 4)) (fun i => False) r39 s.2 ∧ 0 ≤ s.1.toInt ∧ s.1.toInt ≤ 100000 ∧ wt_RI s.2) (fun s : Int32 × wt_St => ((wt_gf s.2 108 2).toInt - (wt_gf s.2 108 4).toInt).toNat) (fun KK46 z47 I48 hKK46 => ?_) _ _ ?_ ?_
      · skip
        obtain ⟨l49, l50, l51, l52⟩ := I48
        unfold wp_md_number_B44
        have bb53 := wt_bd (wt_gf z47.2 108 2)
        have g54 : 0 ≤ (wt_gf z47.2 108 2).toInt ∧ (wt_gf z47.2 108 2).toInt ≤ 500 := wt_R_gf l52 1 rfl
        have tt55 : (wt_gf z47.2 108 2).toInt = (wt_gf r39 108 2).toInt := congrArg Int32.toInt (l49.1 108 2 (by (try dsimp only); omega))
        have bb56 := wt_bd (wt_gf r39 108 2)
        have g57 : 0 ≤ (wt_gf r39 108 2).toInt ∧ (wt_gf r39 108 2).toInt ≤ 500 := wt_R_gf ri42 1 rfl
        have tt58 : (wt_gf r39 108 2).toInt = (wt_gf r8 108 2).toInt := congrArg Int32.toInt (f41.1 108 2 (by (try dsimp only); omega))
        have bb59 := wt_bd (wt_gf z47.2 108 4)
        have g60 : 0 ≤ (wt_gf z47.2 108 4).toInt ∧ (wt_gf z47.2 108 4).toInt ≤ 500 := wt_R_gf l52 2 rfl
        refine wt_T_bi (wq_md_byteAt n hn (wt_gf z47.2 108 4) z47.2 l52 (by omega)) (fun r61 h62 => ?_)
        obtain ⟨e63, pp64⟩ := h62
        have bb65 := wt_bd r61.1
        rw [e63]
        have bb66 := wt_tn (wt_gf z47.2 108 4)
        have bb67 := wt_bd (wt_ga z47.2 109 (Int32.toNatClampNeg (wt_gf z47.2 108 4)))
        have tt68 : (wt_ga z47.2 109 (Int32.toNatClampNeg (wt_gf z47.2 108 4))).toInt = (wt_ga r39 109 (Int32.toNatClampNeg (wt_gf z47.2 108 4))).toInt := congrArg Int32.toInt (l49.2 109 (fun z => z) (Int32.toNatClampNeg (wt_gf z47.2 108 4)))
        have bb69 := wt_bd (wt_ga r39 109 (Int32.toNatClampNeg (wt_gf z47.2 108 4)))
        have tt70 : (wt_ga r39 109 (Int32.toNatClampNeg (wt_gf z47.2 108 4))).toInt = (wt_ga r8 109 (Int32.toNatClampNeg (wt_gf z47.2 108 4))).toInt := congrArg Int32.toInt (f41.2 109 (fun z => z) (Int32.toNatClampNeg (wt_gf z47.2 108 4)))
        have bb71 := wt_bd (wt_ga r8 109 (Int32.toNatClampNeg (wt_gf z47.2 108 4)))
        have tt72 : (wt_ga r8 109 (Int32.toNatClampNeg (wt_gf z47.2 108 4))).toInt = (wt_ga σ 109 (Int32.toNatClampNeg (wt_gf z47.2 108 4))).toInt := congrArg Int32.toInt (f10.2 109 (fun z => z) (Int32.toNatClampNeg (wt_gf z47.2 108 4)))
        have bb73 := wt_bd (wt_ga σ 109 (Int32.toNatClampNeg (wt_gf z47.2 108 4)))
        refine wt_T_bi (wq_md_isDigit n hn r61.1 z47.2 l52) (fun r74 h75 => ?_)
        obtain ⟨e76, pp77⟩ := h75
        have bb78 := wt_bd r74.1
        rw [e76]
        refine wt_T_if (fun h79 => ?_) (fun h79 => ?_)
        · skip
          have c80 := wt_ceq h79
          have bb81 := wt_bd z47.1
          refine wt_T_bi (wq_md_in n hn z47.1 x1 x2 z47.2 l52) (fun r82 h83 => ?_)
          obtain ⟨e84, pp85⟩ := h83
          have bb86 := wt_bd r82.1
          rw [e84]
          refine wt_T_if (fun h87 => ?_) (fun h87 => ?_)
          · skip
            have c88 := wt_ceq h87
            have k89 : (2 : Int32).toInt = 2 := by decide
            refine wt_T_bi (wq_md_wrong n hn (2 : Int32) (wt_gf r8 108 4) z47.2 l52 (by omega) (by omega)) (fun r90 h91 => ?_)
            obtain ⟨f92, ri93, pp94⟩ := h91
            have bb95 := wt_bd (wt_gf r90 108 5)
            have g96 : 0 ≤ (wt_gf r90 108 5).toInt ∧ (wt_gf r90 108 5).toInt ≤ 3 := wt_R_gf ri93 3 rfl
            unfold wp_md_number_B122
            refine wt_T_if (fun h97 => ?_) (fun h97 => ?_)
            · skip
              have c98 := wt_ceq h97
              refine wt_T_some ?_
              exact ⟨(wt_fr.tr (wt_fr.tr (wt_fr.tr (wt_fr.tr wt_fr.rf f10 (fun i k h => by (try dsimp only at h); exact Or.inl (by omega)) (fun i h => h.elim)) f41 (fun i k h => by (try dsimp only at h); rcases h with h | h; exact Or.inr (Or.inl (by omega)); exact Or.inr (Or.inr ((by omega)))) (fun i h => h.elim)) l49 (fun i k h => by (try dsimp only at h); exact Or.inl (by omega)) (fun i h => h.elim)) f92 (fun i k h => by (try dsimp only at h); rcases h with h | h; exact Or.inr (Or.inl (by omega)); exact Or.inr (Or.inr ((by omega)))) (fun i h => h.elim)), ri93, (show ((z47.1.toInt = 0 ∧ (wt_gf r90 108 5).toInt ≠ 0) ∨ ((wt_gf r90 108 5).toInt = 0 ∧ x1.toInt ≤ z47.1.toInt ∧ z47.1.toInt ≤ x2.toInt)) from by omega)⟩
            · skip
              have c99 := wt_nceq h97
              refine wt_T_some ?_
              exact ⟨(wt_fr.tr (wt_fr.tr (wt_fr.tr (wt_fr.tr wt_fr.rf f10 (fun i k h => by (try dsimp only at h); exact Or.inl (by omega)) (fun i h => h.elim)) f41 (fun i k h => by (try dsimp only at h); rcases h with h | h; exact Or.inr (Or.inl (by omega)); exact Or.inr (Or.inr ((by omega)))) (fun i h => h.elim)) l49 (fun i k h => by (try dsimp only at h); exact Or.inl (by omega)) (fun i h => h.elim)) f92 (fun i k h => by (try dsimp only at h); rcases h with h | h; exact Or.inr (Or.inl (by omega)); exact Or.inr (Or.inr ((by omega)))) (fun i h => h.elim)), ri93, (show (((0 : Int32).toInt = 0 ∧ (wt_gf r90 108 5).toInt ≠ 0) ∨ ((wt_gf r90 108 5).toInt = 0 ∧ x1.toInt ≤ (0 : Int32).toInt ∧ (0 : Int32).toInt ≤ x2.toInt)) from by omega)⟩
          · skip
            have c100 := wt_nceq h87
            unfold wp_md_number_B122
            have bb101 := wt_bd (wt_gf z47.2 108 5)
            have g102 : 0 ≤ (wt_gf z47.2 108 5).toInt ∧ (wt_gf z47.2 108 5).toInt ≤ 3 := wt_R_gf l52 3 rfl
            have tt103 : (wt_gf z47.2 108 5).toInt = (wt_gf r39 108 5).toInt := congrArg Int32.toInt (l49.1 108 5 (by (try dsimp only); omega))
            refine wt_T_if (fun h104 => ?_) (fun h104 => ?_)
            · skip
              have c105 := wt_ceq h104
              refine wt_T_some ?_
              exact ⟨(wt_fr.tr (wt_fr.tr (wt_fr.tr wt_fr.rf f10 (fun i k h => by (try dsimp only at h); exact Or.inl (by omega)) (fun i h => h.elim)) f41 (fun i k h => by (try dsimp only at h); rcases h with h | h; exact Or.inr (Or.inl (by omega)); exact Or.inr (Or.inr ((by omega)))) (fun i h => h.elim)) l49 (fun i k h => by (try dsimp only at h); exact Or.inl (by omega)) (fun i h => h.elim)), l52, (show ((z47.1.toInt = 0 ∧ (wt_gf z47.2 108 5).toInt ≠ 0) ∨ ((wt_gf z47.2 108 5).toInt = 0 ∧ x1.toInt ≤ z47.1.toInt ∧ z47.1.toInt ≤ x2.toInt)) from by omega)⟩
            · skip
              have c106 := wt_nceq h104
              refine wt_T_some ?_
              exact ⟨(wt_fr.tr (wt_fr.tr (wt_fr.tr wt_fr.rf f10 (fun i k h => by (try dsimp only at h); exact Or.inl (by omega)) (fun i h => h.elim)) f41 (fun i k h => by (try dsimp only at h); rcases h with h | h; exact Or.inr (Or.inl (by omega)); exact Or.inr (Or.inr ((by omega)))) (fun i h => h.elim)) l49 (fun i k h => by (try dsimp only at h); exact Or.inl (by omega)) (fun i h => h.elim)), l52, (show (((0 : Int32).toInt = 0 ∧ (wt_gf z47.2 108 5).toInt ≠ 0) ∨ ((wt_gf z47.2 108 5).toInt = 0 ∧ x1.toInt ≤ (0 : Int32).toInt ∧ (0 : Int32).toInt ≤ x2.toInt)) from by omega)⟩
        · skip
          have c107 := wt_nceq h79
          refine wt_T_bi (wq_md_byteAt n hn (wt_gf z47.2 108 4) z47.2 l52 (by omega)) (fun r108 h109 => ?_)
          obtain ⟨e110, pp111⟩ := h109
          have bb112 := wt_bd r108.1
          rw [e110]
          have k113 : (10 : Int32).toInt = 10 := by decide
          have bb114 := wt_bd z47.1
          have j115b := wt_bd ((10 : Int32) * z47.1)
          have j115a : ((10 : Int32) * z47.1).toInt = 10 * (z47.1).toInt := wt_mulL (by decide) (by omega) (by omega)
          have j116b := wt_bd (((10 : Int32) * z47.1) + r108.1)
          have j116a : (((10 : Int32) * z47.1) + r108.1).toInt = ((10 : Int32) * z47.1).toInt + (r108.1).toInt := wt_addE (by omega) (by omega)
          have k117 : (48 : Int32).toInt = 48 := by decide
          have j118b := wt_bd ((((10 : Int32) * z47.1) + r108.1) - (48 : Int32))
          have j118a : ((((10 : Int32) * z47.1) + r108.1) - (48 : Int32)).toInt = (((10 : Int32) * z47.1) + r108.1).toInt - ((48 : Int32)).toInt := wt_subE (by omega) (by omega)
          have k119 : (100000 : Int32).toInt = 100000 := by decide
          refine wt_T_if (fun h120 => ?_) (fun h120 => ?_)
          · skip
            have c121 := wt_cle h120
            unfold wp_md_number_B91
            obtain ⟨σ122, eσ122⟩ : ∃ z : wt_St, z = wt_sf z47.2 108 4 ((wt_gf z47.2 108 4) + (1 : Int32)) := ⟨_, rfl⟩
            rw [← eσ122]
            have fσ122 := wt_fr_sf eσ122
            have vσ122 := wt_ceq (wt_v_sf eσ122)
            have j123b := wt_bd ((wt_gf z47.2 108 4) + (1 : Int32))
            have j123a : ((wt_gf z47.2 108 4) + (1 : Int32)).toInt = (wt_gf z47.2 108 4).toInt + ((1 : Int32)).toInt := wt_addE (by omega) (by omega)
            have rσ122 := wt_RI_fin l52 eσ122 2 rfl rfl (show 0 ≤ ((wt_gf z47.2 108 4) + (1 : Int32)).toInt by omega) (show ((wt_gf z47.2 108 4) + (1 : Int32)).toInt ≤ 500 by omega)
            have bb124 := wt_bd (wt_gf σ122 108 2)
            have g125 : 0 ≤ (wt_gf σ122 108 2).toInt ∧ (wt_gf σ122 108 2).toInt ≤ 500 := wt_R_gf rσ122 1 rfl
            have tt126 : (wt_gf σ122 108 2).toInt = (wt_gf z47.2 108 2).toInt := congrArg Int32.toInt (fσ122.1 108 2 (by (try dsimp only); omega))
            have bb127 := wt_bd (wt_gf σ122 108 4)
            have g128 : 0 ≤ (wt_gf σ122 108 4).toInt ∧ (wt_gf σ122 108 4).toInt ≤ 500 := wt_R_gf rσ122 2 rfl
            refine hKK46 _ ⟨(wt_fr.tr (wt_fr.tr wt_fr.rf l49 (fun i k h => by (try dsimp only at h); exact (by omega)) (fun i h => h.elim)) fσ122 (fun i k h => by (try dsimp only at h); exact (by omega)) (fun i h => h.elim)), (show 0 ≤ ((((10 : Int32) * z47.1) + r108.1) - (48 : Int32)).toInt by omega), (show ((((10 : Int32) * z47.1) + r108.1) - (48 : Int32)).toInt ≤ 100000 by omega), rσ122⟩ ?_
            show ((wt_gf σ122 108 2).toInt - (wt_gf σ122 108 4).toInt).toNat < ((wt_gf z47.2 108 2).toInt - (wt_gf z47.2 108 4).toInt).toNat
            omega
          · skip
            have c129 := wt_ncle h120
            unfold wp_md_number_B91
            obtain ⟨σ130, eσ130⟩ : ∃ z : wt_St, z = wt_sf z47.2 108 4 ((wt_gf z47.2 108 4) + (1 : Int32)) := ⟨_, rfl⟩
            rw [← eσ130]
            have fσ130 := wt_fr_sf eσ130
            have vσ130 := wt_ceq (wt_v_sf eσ130)
            have j131b := wt_bd ((wt_gf z47.2 108 4) + (1 : Int32))
            have j131a : ((wt_gf z47.2 108 4) + (1 : Int32)).toInt = (wt_gf z47.2 108 4).toInt + ((1 : Int32)).toInt := wt_addE (by omega) (by omega)
            have rσ130 := wt_RI_fin l52 eσ130 2 rfl rfl (show 0 ≤ ((wt_gf z47.2 108 4) + (1 : Int32)).toInt by omega) (show ((wt_gf z47.2 108 4) + (1 : Int32)).toInt ≤ 500 by omega)
            have bb132 := wt_bd (wt_gf σ130 108 2)
            have g133 : 0 ≤ (wt_gf σ130 108 2).toInt ∧ (wt_gf σ130 108 2).toInt ≤ 500 := wt_R_gf rσ130 1 rfl
            have tt134 : (wt_gf σ130 108 2).toInt = (wt_gf z47.2 108 2).toInt := congrArg Int32.toInt (fσ130.1 108 2 (by (try dsimp only); omega))
            have bb135 := wt_bd (wt_gf σ130 108 4)
            have g136 : 0 ≤ (wt_gf σ130 108 4).toInt ∧ (wt_gf σ130 108 4).toInt ≤ 500 := wt_R_gf rσ130 2 rfl
            refine hKK46 _ ⟨(wt_fr.tr (wt_fr.tr wt_fr.rf l49 (fun i k h => by (try dsimp only at h); exact (by omega)) (fun i h => h.elim)) fσ130 (fun i k h => by (try dsimp only at h); exact (by omega)) (fun i h => h.elim)), (show 0 ≤ (100000 : Int32).toInt by omega), (show (100000 : Int32).toInt ≤ 100000 by omega), rσ130⟩ ?_
            show ((wt_gf σ130 108 2).toInt - (wt_gf σ130 108 4).toInt).toNat < ((wt_gf z47.2 108 2).toInt - (wt_gf z47.2 108 4).toInt).toNat
            omega
      · skip
        have bb137 := wt_bd (wt_gf r39 108 2)
        have g138 : 0 ≤ (wt_gf r39 108 2).toInt ∧ (wt_gf r39 108 2).toInt ≤ 500 := wt_R_gf ri42 1 rfl
        have tt139 : (wt_gf r39 108 2).toInt = (wt_gf r8 108 2).toInt := congrArg Int32.toInt (f41.1 108 2 (by (try dsimp only); omega))
        have bb140 := wt_bd (wt_gf r39 108 4)
        have g141 : 0 ≤ (wt_gf r39 108 4).toInt ∧ (wt_gf r39 108 4).toInt ≤ 500 := wt_R_gf ri42 2 rfl
        have tt142 : (wt_gf r39 108 4).toInt = (wt_gf r8 108 4).toInt := congrArg Int32.toInt (f41.1 108 4 (by (try dsimp only); omega))
        exact ⟨wt_fr.rf, (show 0 ≤ (0 : Int32).toInt by omega), (show (0 : Int32).toInt ≤ 100000 by omega), ri42⟩
      · skip
        have bb143 := wt_bd (wt_gf r39 108 2)
        have g144 : 0 ≤ (wt_gf r39 108 2).toInt ∧ (wt_gf r39 108 2).toInt ≤ 500 := wt_R_gf ri42 1 rfl
        have tt145 : (wt_gf r39 108 2).toInt = (wt_gf r8 108 2).toInt := congrArg Int32.toInt (f41.1 108 2 (by (try dsimp only); omega))
        have bb146 := wt_bd (wt_gf r39 108 4)
        have g147 : 0 ≤ (wt_gf r39 108 4).toInt ∧ (wt_gf r39 108 4).toInt ≤ 500 := wt_R_gf ri42 2 rfl
        have tt148 : (wt_gf r39 108 4).toInt = (wt_gf r8 108 4).toInt := congrArg Int32.toInt (f41.1 108 4 (by (try dsimp only); omega))
        show ((wt_gf r39 108 2).toInt - (wt_gf r39 108 4).toInt).toNat < n
        omega
    · skip
      have c149 := wt_nceq h36
      refine wt_T_it (fun s : Int32 × wt_St => wt_fr (fun i k => (i = 108 ∧ k = 4)) (fun i => False) r8 s.2 ∧ 0 ≤ s.1.toInt ∧ s.1.toInt ≤ 100000 ∧ wt_RI s.2) (fun s : Int32 × wt_St => ((wt_gf s.2 108 2).toInt - (wt_gf s.2 108 4).toInt).toNat) (fun KK150 z151 I152 hKK150 => ?_) _ _ ?_ ?_
      · skip
        obtain ⟨l153, l154, l155, l156⟩ := I152
        unfold wp_md_number_B44
        have bb157 := wt_bd (wt_gf z151.2 108 2)
        have g158 : 0 ≤ (wt_gf z151.2 108 2).toInt ∧ (wt_gf z151.2 108 2).toInt ≤ 500 := wt_R_gf l156 1 rfl
        have tt159 : (wt_gf z151.2 108 2).toInt = (wt_gf r8 108 2).toInt := congrArg Int32.toInt (l153.1 108 2 (by (try dsimp only); omega))
        have bb160 := wt_bd (wt_gf z151.2 108 4)
        have g161 : 0 ≤ (wt_gf z151.2 108 4).toInt ∧ (wt_gf z151.2 108 4).toInt ≤ 500 := wt_R_gf l156 2 rfl
        refine wt_T_bi (wq_md_byteAt n hn (wt_gf z151.2 108 4) z151.2 l156 (by omega)) (fun r162 h163 => ?_)
        obtain ⟨e164, pp165⟩ := h163
        have bb166 := wt_bd r162.1
        rw [e164]
        have bb167 := wt_tn (wt_gf z151.2 108 4)
        have bb168 := wt_bd (wt_ga z151.2 109 (Int32.toNatClampNeg (wt_gf z151.2 108 4)))
        have tt169 : (wt_ga z151.2 109 (Int32.toNatClampNeg (wt_gf z151.2 108 4))).toInt = (wt_ga r8 109 (Int32.toNatClampNeg (wt_gf z151.2 108 4))).toInt := congrArg Int32.toInt (l153.2 109 (fun z => z) (Int32.toNatClampNeg (wt_gf z151.2 108 4)))
        have bb170 := wt_bd (wt_ga r8 109 (Int32.toNatClampNeg (wt_gf z151.2 108 4)))
        have tt171 : (wt_ga r8 109 (Int32.toNatClampNeg (wt_gf z151.2 108 4))).toInt = (wt_ga σ 109 (Int32.toNatClampNeg (wt_gf z151.2 108 4))).toInt := congrArg Int32.toInt (f10.2 109 (fun z => z) (Int32.toNatClampNeg (wt_gf z151.2 108 4)))
        have bb172 := wt_bd (wt_ga σ 109 (Int32.toNatClampNeg (wt_gf z151.2 108 4)))
        refine wt_T_bi (wq_md_isDigit n hn r162.1 z151.2 l156) (fun r173 h174 => ?_)
        obtain ⟨e175, pp176⟩ := h174
        have bb177 := wt_bd r173.1
        rw [e175]
        refine wt_T_if (fun h178 => ?_) (fun h178 => ?_)
        · skip
          have c179 := wt_ceq h178
          have bb180 := wt_bd z151.1
          refine wt_T_bi (wq_md_in n hn z151.1 x1 x2 z151.2 l156) (fun r181 h182 => ?_)
          obtain ⟨e183, pp184⟩ := h182
          have bb185 := wt_bd r181.1
          rw [e183]
          refine wt_T_if (fun h186 => ?_) (fun h186 => ?_)
          · skip
            have c187 := wt_ceq h186
            have k188 : (2 : Int32).toInt = 2 := by decide
            refine wt_T_bi (wq_md_wrong n hn (2 : Int32) (wt_gf r8 108 4) z151.2 l156 (by omega) (by omega)) (fun r189 h190 => ?_)
            obtain ⟨f191, ri192, pp193⟩ := h190
            have bb194 := wt_bd (wt_gf r189 108 5)
            have g195 : 0 ≤ (wt_gf r189 108 5).toInt ∧ (wt_gf r189 108 5).toInt ≤ 3 := wt_R_gf ri192 3 rfl
            unfold wp_md_number_B122
            refine wt_T_if (fun h196 => ?_) (fun h196 => ?_)
            · skip
              have c197 := wt_ceq h196
              refine wt_T_some ?_
              exact ⟨(wt_fr.tr (wt_fr.tr (wt_fr.tr wt_fr.rf f10 (fun i k h => by (try dsimp only at h); exact Or.inl (by omega)) (fun i h => h.elim)) l153 (fun i k h => by (try dsimp only at h); exact Or.inl (by omega)) (fun i h => h.elim)) f191 (fun i k h => by (try dsimp only at h); rcases h with h | h; exact Or.inr (Or.inl (by omega)); exact Or.inr (Or.inr ((by omega)))) (fun i h => h.elim)), ri192, (show ((z151.1.toInt = 0 ∧ (wt_gf r189 108 5).toInt ≠ 0) ∨ ((wt_gf r189 108 5).toInt = 0 ∧ x1.toInt ≤ z151.1.toInt ∧ z151.1.toInt ≤ x2.toInt)) from by omega)⟩
            · skip
              have c198 := wt_nceq h196
              refine wt_T_some ?_
              exact ⟨(wt_fr.tr (wt_fr.tr (wt_fr.tr wt_fr.rf f10 (fun i k h => by (try dsimp only at h); exact Or.inl (by omega)) (fun i h => h.elim)) l153 (fun i k h => by (try dsimp only at h); exact Or.inl (by omega)) (fun i h => h.elim)) f191 (fun i k h => by (try dsimp only at h); rcases h with h | h; exact Or.inr (Or.inl (by omega)); exact Or.inr (Or.inr ((by omega)))) (fun i h => h.elim)), ri192, (show (((0 : Int32).toInt = 0 ∧ (wt_gf r189 108 5).toInt ≠ 0) ∨ ((wt_gf r189 108 5).toInt = 0 ∧ x1.toInt ≤ (0 : Int32).toInt ∧ (0 : Int32).toInt ≤ x2.toInt)) from by omega)⟩
          · skip
            have c199 := wt_nceq h186
            unfold wp_md_number_B122
            have bb200 := wt_bd (wt_gf z151.2 108 5)
            have g201 : 0 ≤ (wt_gf z151.2 108 5).toInt ∧ (wt_gf z151.2 108 5).toInt ≤ 3 := wt_R_gf l156 3 rfl
            have tt202 : (wt_gf z151.2 108 5).toInt = (wt_gf r8 108 5).toInt := congrArg Int32.toInt (l153.1 108 5 (by (try dsimp only); omega))
            have bb203 := wt_bd (wt_gf r8 108 5)
            have g204 : 0 ≤ (wt_gf r8 108 5).toInt ∧ (wt_gf r8 108 5).toInt ≤ 3 := wt_R_gf ri11 3 rfl
            have tt205 : (wt_gf r8 108 5).toInt = (wt_gf σ 108 5).toInt := congrArg Int32.toInt (f10.1 108 5 (by (try dsimp only); omega))
            refine wt_T_if (fun h206 => ?_) (fun h206 => ?_)
            · skip
              have c207 := wt_ceq h206
              refine wt_T_some ?_
              exact ⟨(wt_fr.tr (wt_fr.tr wt_fr.rf f10 (fun i k h => by (try dsimp only at h); exact Or.inl (by omega)) (fun i h => h.elim)) l153 (fun i k h => by (try dsimp only at h); exact Or.inl (by omega)) (fun i h => h.elim)), l156, (show ((z151.1.toInt = 0 ∧ (wt_gf z151.2 108 5).toInt ≠ 0) ∨ ((wt_gf z151.2 108 5).toInt = 0 ∧ x1.toInt ≤ z151.1.toInt ∧ z151.1.toInt ≤ x2.toInt)) from by omega)⟩
            · skip
              have c208 := wt_nceq h206
              refine wt_T_some ?_
              exact ⟨(wt_fr.tr (wt_fr.tr wt_fr.rf f10 (fun i k h => by (try dsimp only at h); exact Or.inl (by omega)) (fun i h => h.elim)) l153 (fun i k h => by (try dsimp only at h); exact Or.inl (by omega)) (fun i h => h.elim)), l156, (show (((0 : Int32).toInt = 0 ∧ (wt_gf z151.2 108 5).toInt ≠ 0) ∨ ((wt_gf z151.2 108 5).toInt = 0 ∧ x1.toInt ≤ (0 : Int32).toInt ∧ (0 : Int32).toInt ≤ x2.toInt)) from by omega)⟩
        · skip
          have c209 := wt_nceq h178
          refine wt_T_bi (wq_md_byteAt n hn (wt_gf z151.2 108 4) z151.2 l156 (by omega)) (fun r210 h211 => ?_)
          obtain ⟨e212, pp213⟩ := h211
          have bb214 := wt_bd r210.1
          rw [e212]
          have k215 : (10 : Int32).toInt = 10 := by decide
          have bb216 := wt_bd z151.1
          have j217b := wt_bd ((10 : Int32) * z151.1)
          have j217a : ((10 : Int32) * z151.1).toInt = 10 * (z151.1).toInt := wt_mulL (by decide) (by omega) (by omega)
          have j218b := wt_bd (((10 : Int32) * z151.1) + r210.1)
          have j218a : (((10 : Int32) * z151.1) + r210.1).toInt = ((10 : Int32) * z151.1).toInt + (r210.1).toInt := wt_addE (by omega) (by omega)
          have k219 : (48 : Int32).toInt = 48 := by decide
          have j220b := wt_bd ((((10 : Int32) * z151.1) + r210.1) - (48 : Int32))
          have j220a : ((((10 : Int32) * z151.1) + r210.1) - (48 : Int32)).toInt = (((10 : Int32) * z151.1) + r210.1).toInt - ((48 : Int32)).toInt := wt_subE (by omega) (by omega)
          have k221 : (100000 : Int32).toInt = 100000 := by decide
          refine wt_T_if (fun h222 => ?_) (fun h222 => ?_)
          · skip
            have c223 := wt_cle h222
            unfold wp_md_number_B91
            obtain ⟨σ224, eσ224⟩ : ∃ z : wt_St, z = wt_sf z151.2 108 4 ((wt_gf z151.2 108 4) + (1 : Int32)) := ⟨_, rfl⟩
            rw [← eσ224]
            have fσ224 := wt_fr_sf eσ224
            have vσ224 := wt_ceq (wt_v_sf eσ224)
            have k225 : (1 : Int32).toInt = 1 := by decide
            have j226b := wt_bd ((wt_gf z151.2 108 4) + (1 : Int32))
            have j226a : ((wt_gf z151.2 108 4) + (1 : Int32)).toInt = (wt_gf z151.2 108 4).toInt + ((1 : Int32)).toInt := wt_addE (by omega) (by omega)
            have rσ224 := wt_RI_fin l156 eσ224 2 rfl rfl (show 0 ≤ ((wt_gf z151.2 108 4) + (1 : Int32)).toInt by omega) (show ((wt_gf z151.2 108 4) + (1 : Int32)).toInt ≤ 500 by omega)
            have bb227 := wt_bd (wt_gf σ224 108 2)
            have g228 : 0 ≤ (wt_gf σ224 108 2).toInt ∧ (wt_gf σ224 108 2).toInt ≤ 500 := wt_R_gf rσ224 1 rfl
            have tt229 : (wt_gf σ224 108 2).toInt = (wt_gf z151.2 108 2).toInt := congrArg Int32.toInt (fσ224.1 108 2 (by (try dsimp only); omega))
            have bb230 := wt_bd (wt_gf σ224 108 4)
            have g231 : 0 ≤ (wt_gf σ224 108 4).toInt ∧ (wt_gf σ224 108 4).toInt ≤ 500 := wt_R_gf rσ224 2 rfl
            refine hKK150 _ ⟨(wt_fr.tr (wt_fr.tr wt_fr.rf l153 (fun i k h => by (try dsimp only at h); exact (by omega)) (fun i h => h.elim)) fσ224 (fun i k h => by (try dsimp only at h); exact (by omega)) (fun i h => h.elim)), (show 0 ≤ ((((10 : Int32) * z151.1) + r210.1) - (48 : Int32)).toInt by omega), (show ((((10 : Int32) * z151.1) + r210.1) - (48 : Int32)).toInt ≤ 100000 by omega), rσ224⟩ ?_
            show ((wt_gf σ224 108 2).toInt - (wt_gf σ224 108 4).toInt).toNat < ((wt_gf z151.2 108 2).toInt - (wt_gf z151.2 108 4).toInt).toNat
            omega
          · skip
            have c232 := wt_ncle h222
            unfold wp_md_number_B91
            obtain ⟨σ233, eσ233⟩ : ∃ z : wt_St, z = wt_sf z151.2 108 4 ((wt_gf z151.2 108 4) + (1 : Int32)) := ⟨_, rfl⟩
            rw [← eσ233]
            have fσ233 := wt_fr_sf eσ233
            have vσ233 := wt_ceq (wt_v_sf eσ233)
            have k234 : (1 : Int32).toInt = 1 := by decide
            have j235b := wt_bd ((wt_gf z151.2 108 4) + (1 : Int32))
            have j235a : ((wt_gf z151.2 108 4) + (1 : Int32)).toInt = (wt_gf z151.2 108 4).toInt + ((1 : Int32)).toInt := wt_addE (by omega) (by omega)
            have rσ233 := wt_RI_fin l156 eσ233 2 rfl rfl (show 0 ≤ ((wt_gf z151.2 108 4) + (1 : Int32)).toInt by omega) (show ((wt_gf z151.2 108 4) + (1 : Int32)).toInt ≤ 500 by omega)
            have bb236 := wt_bd (wt_gf σ233 108 2)
            have g237 : 0 ≤ (wt_gf σ233 108 2).toInt ∧ (wt_gf σ233 108 2).toInt ≤ 500 := wt_R_gf rσ233 1 rfl
            have tt238 : (wt_gf σ233 108 2).toInt = (wt_gf z151.2 108 2).toInt := congrArg Int32.toInt (fσ233.1 108 2 (by (try dsimp only); omega))
            have bb239 := wt_bd (wt_gf σ233 108 4)
            have g240 : 0 ≤ (wt_gf σ233 108 4).toInt ∧ (wt_gf σ233 108 4).toInt ≤ 500 := wt_R_gf rσ233 2 rfl
            refine hKK150 _ ⟨(wt_fr.tr (wt_fr.tr wt_fr.rf l153 (fun i k h => by (try dsimp only at h); exact (by omega)) (fun i h => h.elim)) fσ233 (fun i k h => by (try dsimp only at h); exact (by omega)) (fun i h => h.elim)), (show 0 ≤ (100000 : Int32).toInt by omega), (show (100000 : Int32).toInt ≤ 100000 by omega), rσ233⟩ ?_
            show ((wt_gf σ233 108 2).toInt - (wt_gf σ233 108 4).toInt).toNat < ((wt_gf z151.2 108 2).toInt - (wt_gf z151.2 108 4).toInt).toNat
            omega
      · skip
        exact ⟨wt_fr.rf, (show 0 ≤ (0 : Int32).toInt by omega), (show (0 : Int32).toInt ≤ 100000 by omega), ri11⟩
      · skip
        show ((wt_gf r8 108 2).toInt - (wt_gf r8 108 4).toInt).toNat < n
        omega
  · skip
    have c241 := wt_nceq h6
    refine wt_T_some ?_
    exact ⟨wt_fr.rf, r0, (show (((0 : Int32).toInt = 0 ∧ (wt_gf σ 108 5).toInt ≠ 0) ∨ ((wt_gf σ 108 5).toInt = 0 ∧ x1.toInt ≤ (0 : Int32).toInt ∧ (0 : Int32).toInt ≤ x2.toInt)) from by omega)⟩
set_option maxRecDepth 100000 in
set_option maxHeartbeats 4000000 in
theorem wq_md_six (n : Nat) (hn : 4294967297 < n) (x0 : Int32) (x1 : Int32) (x2 : Int32) (x3 : Int32) (x4 : Int32) (x5 : Int32) (σ : wt_St) (r0 : wt_RI σ) : wt_T (wp_md_six n x0 x1 x2 x3 x4 x5 σ) (fun q => q.2 = σ) := by
  have bb1 := wt_bd x0
  have bb2 := wt_bd x1
  have bb3 := wt_bd x2
  have bb4 := wt_bd x3
  have bb5 := wt_bd x4
  have bb6 := wt_bd x5
  unfold wp_md_six
  have k7 : (0 : Int32).toInt = 0 := by decide
  refine wt_T_if (fun h8 => ?_) (fun h8 => ?_)
  · skip
    have c9 := wt_ceq h8
    unfold wp_md_six_B36
    refine wt_T_if (fun h10 => ?_) (fun h10 => ?_)
    · skip
      have c11 := wt_ceq h10
      refine wt_T_some ?_
      exact rfl
    · skip
      have c12 := wt_nceq h10
      refine wt_T_some ?_
      exact rfl
  · skip
    have c13 := wt_nceq h8
    unfold wp_md_six_B36
    refine wt_T_if (fun h14 => ?_) (fun h14 => ?_)
    · skip
      have c15 := wt_ceq h14
      refine wt_T_some ?_
      exact rfl
    · skip
      have c16 := wt_nceq h14
      refine wt_T_some ?_
      exact rfl
set_option maxRecDepth 100000 in
set_option maxHeartbeats 4000000 in
theorem wq_md_clearsCase (n : Nat) (hn : 4294967297 < n) (σ : wt_St) (r0 : wt_RI σ) : wt_T (wp_md_clearsCase n σ) (fun q => wt_fr (fun i k => (i = 108 ∧ k = 24)) (fun i => i = 118 ∨ i = 110 ∨ i = 112 ∨ i = 114 ∨ i = 116) σ q ∧ wt_RI q) := by
  unfold wp_md_clearsCase
  have k7 : (0 : Int32).toInt = 0 := by decide
  refine wt_T_it (fun s : Int32 × wt_St => wt_fr (fun i k => False) (fun i => i = 110 ∨ i = 112 ∨ i = 114 ∨ i = 116) σ s.2 ∧ 0 ≤ (s.1).toInt ∧ wt_RI s.2) (fun s : Int32 × wt_St => ((26 : Int32).toInt - s.1.toInt + 0).toNat) (fun KK1 z2 I3 hKK1 => ?_) _ _ ?_ ?_
  · skip
    obtain ⟨l4, l5, l6⟩ := I3
    unfold wp_md_clearsCase_B2
    have k8 : (26 : Int32).toInt = 26 := by decide
    have bb9 := wt_bd z2.1
    refine wt_T_if (fun h10 => ?_) (fun h10 => ?_)
    · skip
      have c11 := wt_cle h10
      refine wt_T_it (fun s : Int32 × wt_St => wt_fr (fun i k => False) (fun i => i = 118) z2.2 s.2 ∧ 0 ≤ (s.1).toInt ∧ wt_RI s.2) (fun s : Int32 × wt_St => ((4 : Int32).toInt - s.1.toInt + 0).toNat) (fun KK12 z13 I14 hKK12 => ?_) _ _ ?_ ?_
      · skip
        obtain ⟨l15, l16, l17⟩ := I14
        unfold wp_md_clearsCase_B44
        have k18 : (4 : Int32).toInt = 4 := by decide
        have bb19 := wt_bd z13.1
        refine wt_T_if (fun h20 => ?_) (fun h20 => ?_)
        · skip
          have c21 := wt_cle h20
          obtain ⟨σ22, eσ22⟩ : ∃ z : wt_St, z = wt_sf z13.2 108 24 (0 : Int32) := ⟨_, rfl⟩
          rw [← eσ22]
          have fσ22 := wt_fr_sf eσ22
          have vσ22 := wt_ceq (wt_v_sf eσ22)
          have rσ22 := wt_RI_fno l17 eσ22 (Or.inr (by decide))
          refine wt_T_some ?_
          exact ⟨(wt_fr.tr (wt_fr.tr (wt_fr.tr wt_fr.rf l4 (fun i k h => h.elim) (fun i h => by (try dsimp only at h); rcases h with h | h | h | h; exact Or.inr (Or.inl (by omega)); exact Or.inr (Or.inr (Or.inl (by omega))); exact Or.inr (Or.inr (Or.inr (Or.inl (by omega)))); exact Or.inr (Or.inr (Or.inr (Or.inr ((by omega))))))) l15 (fun i k h => h.elim) (fun i h => by (try dsimp only at h); exact Or.inl (by omega))) fσ22 (fun i k h => by (try dsimp only at h); exact (by omega)) (fun i h => h.elim)), rσ22⟩
        · skip
          have c23 := wt_ncle h20
          refine wt_T_gd (wt_ix (by omega) (by omega)) ?_
          obtain ⟨σ24, eσ24⟩ : ∃ z : wt_St, z = wt_sa z13.2 118 (Int32.toNatClampNeg z13.1) (0 : Int32) := ⟨_, rfl⟩
          rw [← eσ24]
          have fσ24 := wt_fr_sa eσ24
          have vσ24 := wt_ceq (wt_v_sa eσ24)
          have bb25 := wt_tn z13.1
          have rσ24 := wt_RI_no l17 eσ24 118 119 (by decide) (by decide) (by decide)
          refine hKK12 _ ⟨(wt_fr.tr (wt_fr.tr wt_fr.rf l15 (fun i k h => h.elim) (fun i h => by (try dsimp only at h); exact (by omega))) fσ24 (fun i k h => h.elim) (fun i h => by (try dsimp only at h); exact (by omega))), (wt_nn (B := (4 : Int32)) (by omega) (by omega)), rσ24⟩ ?_
          show ((4 : Int32).toInt - (z13.1 + (1 : Int32)).toInt + 0).toNat < ((4 : Int32).toInt - z13.1.toInt + 0).toNat
          exact wt_mu (by omega) (by omega)
      · skip
        have k26 : (4 : Int32).toInt = 4 := by decide
        exact ⟨wt_fr.rf, (show 0 ≤ ((0 : Int32)).toInt by omega), l6⟩
      · skip
        have k27 : (4 : Int32).toInt = 4 := by decide
        show ((4 : Int32).toInt - (0 : Int32).toInt + 0).toNat < n
        omega
    · skip
      have c28 := wt_ncle h10
      refine wt_T_gd (wt_ix (by omega) (by omega)) ?_
      refine wt_T_gd (wt_ix (by omega) (by omega)) ?_
      refine wt_T_gd (wt_ix (by omega) (by omega)) ?_
      refine wt_T_gd (wt_ix (by omega) (by omega)) ?_
      obtain ⟨σ29, eσ29⟩ : ∃ z : wt_St, z = wt_sa z2.2 110 (Int32.toNatClampNeg z2.1) (0 : Int32) := ⟨_, rfl⟩
      rw [← eσ29]
      have fσ29 := wt_fr_sa eσ29
      have vσ29 := wt_ceq (wt_v_sa eσ29)
      have bb30 := wt_tn z2.1
      have rσ29 := wt_RI_in l6 eσ29 0 rfl (by decide) (by decide) (show 0 ≤ ((0 : Int32)).toInt by omega) (show ((0 : Int32)).toInt ≤ 12 by omega)
      obtain ⟨σ31, eσ31⟩ : ∃ z : wt_St, z = wt_sa σ29 112 (Int32.toNatClampNeg z2.1) (0 : Int32) := ⟨_, rfl⟩
      rw [← eσ31]
      have fσ31 := wt_fr_sa eσ31
      have vσ31 := wt_ceq (wt_v_sa eσ31)
      have rσ31 := wt_RI_in rσ29 eσ31 2 rfl (by decide) (by decide) (show 0 ≤ ((0 : Int32)).toInt by omega) (show ((0 : Int32)).toInt ≤ 12 by omega)
      obtain ⟨σ32, eσ32⟩ : ∃ z : wt_St, z = wt_sa σ31 114 (Int32.toNatClampNeg z2.1) (1 : Int32) := ⟨_, rfl⟩
      rw [← eσ32]
      have fσ32 := wt_fr_sa eσ32
      have vσ32 := wt_ceq (wt_v_sa eσ32)
      have k33 : (1 : Int32).toInt = 1 := by decide
      have rσ32 := wt_RI_no rσ31 eσ32 114 115 (by decide) (by decide) (by decide)
      obtain ⟨σ34, eσ34⟩ : ∃ z : wt_St, z = wt_sa σ32 116 (Int32.toNatClampNeg z2.1) (-1 : Int32) := ⟨_, rfl⟩
      rw [← eσ34]
      have fσ34 := wt_fr_sa eσ34
      have vσ34 := wt_ceq (wt_v_sa eσ34)
      have rσ34 := wt_RI_no rσ32 eσ34 116 117 (by decide) (by decide) (by decide)
      refine hKK1 _ ⟨(wt_fr.tr (wt_fr.tr (wt_fr.tr (wt_fr.tr (wt_fr.tr wt_fr.rf l4 (fun i k h => h.elim) (fun i h => by (try dsimp only at h); rcases h with h | h | h | h; exact Or.inl (by omega); exact Or.inr (Or.inl (by omega)); exact Or.inr (Or.inr (Or.inl (by omega))); exact Or.inr (Or.inr (Or.inr ((by omega)))))) fσ29 (fun i k h => h.elim) (fun i h => by (try dsimp only at h); exact Or.inl (by omega))) fσ31 (fun i k h => h.elim) (fun i h => by (try dsimp only at h); exact Or.inr (Or.inl (by omega)))) fσ32 (fun i k h => h.elim) (fun i h => by (try dsimp only at h); exact Or.inr (Or.inr (Or.inl (by omega))))) fσ34 (fun i k h => h.elim) (fun i h => by (try dsimp only at h); exact Or.inr (Or.inr (Or.inr ((by omega)))))), (wt_nn (B := (26 : Int32)) (by omega) (by omega)), rσ34⟩ ?_
      show ((26 : Int32).toInt - (z2.1 + (1 : Int32)).toInt + 0).toNat < ((26 : Int32).toInt - z2.1.toInt + 0).toNat
      exact wt_mu (by omega) (by omega)
  · skip
    have k35 : (26 : Int32).toInt = 26 := by decide
    exact ⟨wt_fr.rf, (show 0 ≤ ((0 : Int32)).toInt by omega), r0⟩
  · skip
    have k36 : (26 : Int32).toInt = 26 := by decide
    show ((26 : Int32).toInt - (0 : Int32).toInt + 0).toNat < n
    omega
set_option maxRecDepth 100000 in
set_option maxHeartbeats 4000000 in
theorem wq_md_count (n : Nat) (hn : 4294967297 < n) (x1 : Int32) (σ : wt_St) (r0 : wt_RI σ) : wt_T (wp_md_count n x1 σ) (fun q => wt_fr (fun i k => (i = 108 ∧ k = 0)) (fun i => False) σ q.2 ∧ wt_RI q.2) := by
  have bb1 := wt_bd x1
  unfold wp_md_count
  have k2 : (0 : Int32).toInt = 0 := by decide
  refine wt_T_if (fun h3 => ?_) (fun h3 => ?_)
  · skip
    have c4 := wt_ceq h3
    obtain ⟨σ5, eσ5⟩ : ∃ z : wt_St, z = wt_sf σ 108 0 (0 : Int32) := ⟨_, rfl⟩
    rw [← eσ5]
    have fσ5 := wt_fr_sf eσ5
    have vσ5 := wt_ceq (wt_v_sf eσ5)
    have rσ5 := wt_RI_fno r0 eσ5 (Or.inr (by decide))
    refine wt_T_some ?_
    exact ⟨(wt_fr.tr wt_fr.rf fσ5 (fun i k h => by (try dsimp only at h); exact (by omega)) (fun i h => h.elim)), rσ5⟩
  · skip
    have c6 := wt_nceq h3
    have k7 : (1 : Int32).toInt = 1 := by decide
    refine wt_T_if (fun h8 => ?_) (fun h8 => ?_)
    · skip
      have c9 := wt_ceq h8
      obtain ⟨σ10, eσ10⟩ : ∃ z : wt_St, z = wt_sf σ 108 0 (0 : Int32) := ⟨_, rfl⟩
      rw [← eσ10]
      have fσ10 := wt_fr_sf eσ10
      have vσ10 := wt_ceq (wt_v_sf eσ10)
      have rσ10 := wt_RI_fno r0 eσ10 (Or.inr (by decide))
      refine wt_T_some ?_
      exact ⟨(wt_fr.tr wt_fr.rf fσ10 (fun i k h => by (try dsimp only at h); exact (by omega)) (fun i h => h.elim)), rσ10⟩
    · skip
      have c11 := wt_nceq h8
      obtain ⟨σ12, eσ12⟩ : ∃ z : wt_St, z = wt_sf σ 108 0 (0 : Int32) := ⟨_, rfl⟩
      rw [← eσ12]
      have fσ12 := wt_fr_sf eσ12
      have vσ12 := wt_ceq (wt_v_sf eσ12)
      have rσ12 := wt_RI_fno r0 eσ12 (Or.inr (by decide))
      refine wt_T_some ?_
      exact ⟨(wt_fr.tr wt_fr.rf fσ12 (fun i k h => by (try dsimp only at h); exact (by omega)) (fun i h => h.elim)), rσ12⟩
set_option maxRecDepth 100000 in
set_option maxHeartbeats 4000000 in
theorem wq_md_nextPiece (n : Nat) (hn : 4294967297 < n) (x1 : Int32) (x2 : Int32) (σ : wt_St) (r0 : wt_RI σ) (p0 : 0 ≤ x1.toInt) (p1 : x1.toInt ≤ 25) : wt_T (wp_md_nextPiece n x1 x2 σ) (fun q => q.2 = σ ∧ (q.1.toInt = -1 ∨ (0 ≤ q.1.toInt ∧ q.1.toInt ≤ 337))) := by
  have bb1 := wt_bd x1
  have bb2 := wt_bd x2
  unfold wp_md_nextPiece
  have k9 : (0 : Int32).toInt = 0 := by decide
  refine wt_T_it (fun s : Int32 × Int32 × wt_St => s.2.2 = σ ∧ 0 ≤ (s.2.1).toInt ∧ (s.1.toInt = -1 ∨ (0 ≤ s.1.toInt ∧ s.1.toInt ≤ 337))) (fun s : Int32 × Int32 × wt_St => ((wt_ga s.2.2 111 (Int32.toNatClampNeg x1)).toInt - s.2.1.toInt + 0).toNat) (fun KK3 z4 I5 hKK3 => ?_) _ _ ?_ ?_
  · skip
    obtain ⟨l6, l7, l8⟩ := I5
    unfold wp_md_nextPiece_B5
    rw [l6]
    have bb10 := wt_tn x1
    have bb11 := wt_bd (wt_ga σ 111 (Int32.toNatClampNeg x1))
    have g12 : 0 ≤ (wt_ga σ 111 (Int32.toNatClampNeg x1)).toInt ∧ (wt_ga σ 111 (Int32.toNatClampNeg x1)).toInt ≤ 13 := wt_R_ga r0 1 rfl 111 (by decide) (by decide) (Int32.toNatClampNeg x1)
    have bb13 := wt_bd z4.2.1
    refine wt_T_gd (wt_ix (by omega) (by omega)) ?_
    refine wt_T_if (fun h14 => ?_) (fun h14 => ?_)
    · skip
      have c15 := wt_cle h14
      refine wt_T_some ?_
      have bb16 := wt_bd z4.1
      exact ⟨rfl, (show (z4.1.toInt = -1 ∨ (0 ≤ z4.1.toInt ∧ z4.1.toInt ≤ 337)) from by omega)⟩
    · skip
      have c17 := wt_ncle h14
      refine wt_T_bi (wq_md_cell n hn x1 z4.2.1 σ r0 (by omega) (by omega) (by omega) (by omega)) (fun r18 h19 => ?_)
      obtain ⟨e20, pp21⟩ := h19
      have bb22 := wt_bd r18.1
      rw [e20]
      refine wt_T_gd (wt_ix (by omega) (by omega)) ?_
      have bb23 := wt_tn r18.1
      have bb24 := wt_bd (wt_ga σ 124 (Int32.toNatClampNeg r18.1))
      refine wt_T_if (fun h25 => ?_) (fun h25 => ?_)
      · skip
        have c26 := wt_ceq h25
        rw [wt_lm1] at c26
        refine wt_T_gd (wt_ix (by omega) (by omega)) ?_
        have bb27 := wt_bd (wt_ga σ 121 (Int32.toNatClampNeg r18.1))
        refine wt_T_if (fun h28 => ?_) (fun h28 => ?_)
        · skip
          have c29 := wt_cle h28
          have bb30 := wt_bd z4.1
          refine wt_T_if (fun h31 => ?_) (fun h31 => ?_)
          · skip
            have c32 := wt_ceq h31
            rw [wt_lm1] at c32
            unfold wp_md_nextPiece_B96
            unfold wp_md_nextPiece_B99
            have k33 : (1 : Int32).toInt = 1 := by decide
            obtain ⟨j34, j34a, j34b⟩ := wt_addI z4.2.1 (1 : Int32)
            refine hKK3 _ ⟨rfl, (wt_nn (B := wt_ga z4.2.2 111 (Int32.toNatClampNeg x1)) (by omega) (by first | (rw [l6]; omega) | (rw [l6]; done) | omega)), (show (r18.1.toInt = -1 ∨ (0 ≤ r18.1.toInt ∧ r18.1.toInt ≤ 337)) by omega)⟩ ?_
            show ((wt_ga σ 111 (Int32.toNatClampNeg x1)).toInt - (z4.2.1 + (1 : Int32)).toInt + 0).toNat < ((wt_ga z4.2.2 111 (Int32.toNatClampNeg x1)).toInt - z4.2.1.toInt + 0).toNat
            exact wt_mu (by first | (rw [l6]; omega) | (rw [l6]; done) | omega) (by first | (rw [l6]; omega) | (rw [l6]; done) | omega)
          · skip
            have c35 := wt_nceq h31
            rw [wt_lm1] at c35
            have bb36 := wt_bd (wt_gf σ 108 26)
            refine wt_T_if (fun h37 => ?_) (fun h37 => ?_)
            · skip
              have c38 := wt_ceq h37
              refine wt_T_gd (wt_ix (by omega) (by omega)) ?_
              refine wt_T_gd (wt_ix (by omega) (by omega)) ?_
              have bb39 := wt_tn z4.1
              have bb40 := wt_bd (wt_ga σ 121 (Int32.toNatClampNeg z4.1))
              refine wt_T_if (fun h41 => ?_) (fun h41 => ?_)
              · skip
                have c42 := wt_cle h41
                unfold wp_md_nextPiece_B99
                have k43 : (1 : Int32).toInt = 1 := by decide
                obtain ⟨j44, j44a, j44b⟩ := wt_addI z4.2.1 (1 : Int32)
                refine hKK3 _ ⟨rfl, (wt_nn (B := wt_ga z4.2.2 111 (Int32.toNatClampNeg x1)) (by omega) (by first | (rw [l6]; omega) | (rw [l6]; done) | omega)), (show (z4.1.toInt = -1 ∨ (0 ≤ z4.1.toInt ∧ z4.1.toInt ≤ 337)) by omega)⟩ ?_
                show ((wt_ga σ 111 (Int32.toNatClampNeg x1)).toInt - (z4.2.1 + (1 : Int32)).toInt + 0).toNat < ((wt_ga z4.2.2 111 (Int32.toNatClampNeg x1)).toInt - z4.2.1.toInt + 0).toNat
                exact wt_mu (by first | (rw [l6]; omega) | (rw [l6]; done) | omega) (by first | (rw [l6]; omega) | (rw [l6]; done) | omega)
              · skip
                have c45 := wt_ncle h41
                unfold wp_md_nextPiece_B96
                unfold wp_md_nextPiece_B99
                have k46 : (1 : Int32).toInt = 1 := by decide
                obtain ⟨j47, j47a, j47b⟩ := wt_addI z4.2.1 (1 : Int32)
                refine hKK3 _ ⟨rfl, (wt_nn (B := wt_ga z4.2.2 111 (Int32.toNatClampNeg x1)) (by omega) (by first | (rw [l6]; omega) | (rw [l6]; done) | omega)), (show (r18.1.toInt = -1 ∨ (0 ≤ r18.1.toInt ∧ r18.1.toInt ≤ 337)) by omega)⟩ ?_
                show ((wt_ga σ 111 (Int32.toNatClampNeg x1)).toInt - (z4.2.1 + (1 : Int32)).toInt + 0).toNat < ((wt_ga z4.2.2 111 (Int32.toNatClampNeg x1)).toInt - z4.2.1.toInt + 0).toNat
                exact wt_mu (by first | (rw [l6]; omega) | (rw [l6]; done) | omega) (by first | (rw [l6]; omega) | (rw [l6]; done) | omega)
            · skip
              have c48 := wt_nceq h37
              refine wt_T_gd (wt_ix (by omega) (by omega)) ?_
              refine wt_T_gd (wt_ix (by omega) (by omega)) ?_
              have bb49 := wt_tn z4.1
              have bb50 := wt_bd (wt_ga σ 121 (Int32.toNatClampNeg z4.1))
              refine wt_T_if (fun h51 => ?_) (fun h51 => ?_)
              · skip
                have c52 := wt_cle h51
                unfold wp_md_nextPiece_B99
                have k53 : (1 : Int32).toInt = 1 := by decide
                obtain ⟨j54, j54a, j54b⟩ := wt_addI z4.2.1 (1 : Int32)
                refine hKK3 _ ⟨rfl, (wt_nn (B := wt_ga z4.2.2 111 (Int32.toNatClampNeg x1)) (by omega) (by first | (rw [l6]; omega) | (rw [l6]; done) | omega)), (show (z4.1.toInt = -1 ∨ (0 ≤ z4.1.toInt ∧ z4.1.toInt ≤ 337)) by omega)⟩ ?_
                show ((wt_ga σ 111 (Int32.toNatClampNeg x1)).toInt - (z4.2.1 + (1 : Int32)).toInt + 0).toNat < ((wt_ga z4.2.2 111 (Int32.toNatClampNeg x1)).toInt - z4.2.1.toInt + 0).toNat
                exact wt_mu (by first | (rw [l6]; omega) | (rw [l6]; done) | omega) (by first | (rw [l6]; omega) | (rw [l6]; done) | omega)
              · skip
                have c55 := wt_ncle h51
                unfold wp_md_nextPiece_B96
                unfold wp_md_nextPiece_B99
                have k56 : (1 : Int32).toInt = 1 := by decide
                obtain ⟨j57, j57a, j57b⟩ := wt_addI z4.2.1 (1 : Int32)
                refine hKK3 _ ⟨rfl, (wt_nn (B := wt_ga z4.2.2 111 (Int32.toNatClampNeg x1)) (by omega) (by first | (rw [l6]; omega) | (rw [l6]; done) | omega)), (show (r18.1.toInt = -1 ∨ (0 ≤ r18.1.toInt ∧ r18.1.toInt ≤ 337)) by omega)⟩ ?_
                show ((wt_ga σ 111 (Int32.toNatClampNeg x1)).toInt - (z4.2.1 + (1 : Int32)).toInt + 0).toNat < ((wt_ga z4.2.2 111 (Int32.toNatClampNeg x1)).toInt - z4.2.1.toInt + 0).toNat
                exact wt_mu (by first | (rw [l6]; omega) | (rw [l6]; done) | omega) (by first | (rw [l6]; omega) | (rw [l6]; done) | omega)
        · skip
          have c58 := wt_ncle h28
          unfold wp_md_nextPiece_B99
          have bb59 := wt_bd z4.1
          have k60 : (1 : Int32).toInt = 1 := by decide
          obtain ⟨j61, j61a, j61b⟩ := wt_addI z4.2.1 (1 : Int32)
          refine hKK3 _ ⟨rfl, (wt_nn (B := wt_ga z4.2.2 111 (Int32.toNatClampNeg x1)) (by omega) (by first | (rw [l6]; omega) | (rw [l6]; done) | omega)), (show (z4.1.toInt = -1 ∨ (0 ≤ z4.1.toInt ∧ z4.1.toInt ≤ 337)) by omega)⟩ ?_
          show ((wt_ga σ 111 (Int32.toNatClampNeg x1)).toInt - (z4.2.1 + (1 : Int32)).toInt + 0).toNat < ((wt_ga z4.2.2 111 (Int32.toNatClampNeg x1)).toInt - z4.2.1.toInt + 0).toNat
          exact wt_mu (by first | (rw [l6]; omega) | (rw [l6]; done) | omega) (by first | (rw [l6]; omega) | (rw [l6]; done) | omega)
      · skip
        have c62 := wt_nceq h25
        rw [wt_lm1] at c62
        unfold wp_md_nextPiece_B99
        have bb63 := wt_bd z4.1
        have k64 : (1 : Int32).toInt = 1 := by decide
        obtain ⟨j65, j65a, j65b⟩ := wt_addI z4.2.1 (1 : Int32)
        refine hKK3 _ ⟨rfl, (wt_nn (B := wt_ga z4.2.2 111 (Int32.toNatClampNeg x1)) (by omega) (by first | (rw [l6]; omega) | (rw [l6]; done) | omega)), (show (z4.1.toInt = -1 ∨ (0 ≤ z4.1.toInt ∧ z4.1.toInt ≤ 337)) by omega)⟩ ?_
        show ((wt_ga σ 111 (Int32.toNatClampNeg x1)).toInt - (z4.2.1 + (1 : Int32)).toInt + 0).toNat < ((wt_ga z4.2.2 111 (Int32.toNatClampNeg x1)).toInt - z4.2.1.toInt + 0).toNat
        exact wt_mu (by first | (rw [l6]; omega) | (rw [l6]; done) | omega) (by first | (rw [l6]; omega) | (rw [l6]; done) | omega)
  · skip
    have bb66 := wt_tn x1
    have bb67 := wt_bd (wt_ga σ 111 (Int32.toNatClampNeg x1))
    have g68 : 0 ≤ (wt_ga σ 111 (Int32.toNatClampNeg x1)).toInt ∧ (wt_ga σ 111 (Int32.toNatClampNeg x1)).toInt ≤ 13 := wt_R_ga r0 1 rfl 111 (by decide) (by decide) (Int32.toNatClampNeg x1)
    have k69 := wt_lm1
    exact ⟨rfl, (show 0 ≤ ((0 : Int32)).toInt by omega), (show ((-1 : Int32).toInt = -1 ∨ (0 ≤ (-1 : Int32).toInt ∧ (-1 : Int32).toInt ≤ 337)) by omega)⟩
  · skip
    have bb70 := wt_tn x1
    have bb71 := wt_bd (wt_ga σ 111 (Int32.toNatClampNeg x1))
    have g72 : 0 ≤ (wt_ga σ 111 (Int32.toNatClampNeg x1)).toInt ∧ (wt_ga σ 111 (Int32.toNatClampNeg x1)).toInt ≤ 13 := wt_R_ga r0 1 rfl 111 (by decide) (by decide) (Int32.toNatClampNeg x1)
    show ((wt_ga σ 111 (Int32.toNatClampNeg x1)).toInt - (0 : Int32).toInt + 0).toNat < n
    omega
set_option maxRecDepth 100000 in
set_option maxHeartbeats 4000000 in
theorem wq_md_puts (n : Nat) (hn : 4294967297 < n) (σ : wt_St) (r0 : wt_RI σ) : wt_T (wp_md_puts n σ) (fun q => wt_fr (fun i k => False) (fun i => i = 286) σ q ∧ wt_RI q) := by
  unfold wp_md_puts
  have k7 : (0 : Int32).toInt = 0 := by decide
  refine wt_T_it (fun s : Int32 × wt_St => wt_fr (fun i k => False) (fun i => i = 286) σ s.2 ∧ 0 ≤ (s.1).toInt ∧ wt_RI s.2) (fun s : Int32 × wt_St => ((338 : Int32).toInt - s.1.toInt + 0).toNat) (fun KK1 z2 I3 hKK1 => ?_) _ _ ?_ ?_
  · skip
    obtain ⟨l4, l5, l6⟩ := I3
    unfold wp_md_puts_B2
    have k8 : (338 : Int32).toInt = 338 := by decide
    have bb9 := wt_bd z2.1
    refine wt_T_if (fun h10 => ?_) (fun h10 => ?_)
    · skip
      have c11 := wt_cle h10
      refine wt_T_some ?_
      exact ⟨(wt_fr.tr wt_fr.rf l4 (fun i k h => h.elim) (fun i h => by (try dsimp only at h); exact (by omega))), l6⟩
    · skip
      have c12 := wt_ncle h10
      refine wt_T_gd (wt_ix (by omega) (by omega)) ?_
      refine wt_T_gd (wt_ix (by omega) (by omega)) ?_
      obtain ⟨σ13, eσ13⟩ : ∃ z : wt_St, z = wt_sa z2.2 286 (Int32.toNatClampNeg z2.1) (wt_ga z2.2 121 (Int32.toNatClampNeg z2.1)) := ⟨_, rfl⟩
      rw [← eσ13]
      have fσ13 := wt_fr_sa eσ13
      have vσ13 := wt_ceq (wt_v_sa eσ13)
      have bb14 := wt_tn z2.1
      have bb15 := wt_bd (wt_ga z2.2 121 (Int32.toNatClampNeg z2.1))
      have tt16 : (wt_ga z2.2 121 (Int32.toNatClampNeg z2.1)).toInt = (wt_ga σ 121 (Int32.toNatClampNeg z2.1)).toInt := congrArg Int32.toInt (l4.2 121 (by (try dsimp only); omega) (Int32.toNatClampNeg z2.1))
      have bb17 := wt_bd (wt_ga σ 121 (Int32.toNatClampNeg z2.1))
      have rσ13 := wt_RI_no l6 eσ13 286 287 (by decide) (by decide) (by decide)
      refine hKK1 _ ⟨(wt_fr.tr (wt_fr.tr wt_fr.rf l4 (fun i k h => h.elim) (fun i h => by (try dsimp only at h); exact (by omega))) fσ13 (fun i k h => h.elim) (fun i h => by (try dsimp only at h); exact (by omega))), (wt_nn (B := (338 : Int32)) (by omega) (by omega)), rσ13⟩ ?_
      show ((338 : Int32).toInt - (z2.1 + (1 : Int32)).toInt + 0).toNat < ((338 : Int32).toInt - z2.1.toInt + 0).toNat
      exact wt_mu (by omega) (by omega)
  · skip
    have k18 : (338 : Int32).toInt = 338 := by decide
    exact ⟨wt_fr.rf, (show 0 ≤ ((0 : Int32)).toInt by omega), r0⟩
  · skip
    have k19 : (338 : Int32).toInt = 338 := by decide
    show ((338 : Int32).toInt - (0 : Int32).toInt + 0).toNat < n
    omega
set_option maxRecDepth 100000 in
set_option maxHeartbeats 4000000 in
theorem wq_md_isWordNumber (n : Nat) (hn : 4294967297 < n) (x1 : Int32) (σ : wt_St) (r0 : wt_RI σ) : wt_T (wp_md_isWordNumber n x1 σ) (fun q => q.2 = σ ∧ (q.1.toInt = 0 ∨ (q.1.toInt = 1 ∧ 0 ≤ x1.toInt ∧ x1.toInt < (wt_gf σ 108 28).toInt))) := by
  have bb1 := wt_bd x1
  unfold wp_md_isWordNumber
  have k2 : (0 : Int32).toInt = 0 := by decide
  have bb3 := wt_bd (wt_gf σ 108 28)
  have g4 : 0 ≤ (wt_gf σ 108 28).toInt ∧ (wt_gf σ 108 28).toInt ≤ 60 := wt_R_gf r0 6 rfl
  have k5 : (1 : Int32).toInt = 1 := by decide
  obtain ⟨j6, j6a, j6b⟩ := wt_subI (wt_gf σ 108 28) (1 : Int32)
  refine wt_T_bi (wq_md_in n hn x1 (0 : Int32) ((wt_gf σ 108 28) - (1 : Int32)) σ r0) (fun r7 h8 => ?_)
  obtain ⟨e9, pp10⟩ := h8
  have bb11 := wt_bd r7.1
  rw [e9]
  refine wt_T_some ?_
  exact ⟨rfl, (show (r7.1.toInt = 0 ∨ (r7.1.toInt = 1 ∧ 0 ≤ x1.toInt ∧ x1.toInt < (wt_gf σ 108 28).toInt)) from by omega)⟩
set_option maxRecDepth 100000 in
set_option maxHeartbeats 4000000 in
theorem wq_md_putsBack (n : Nat) (hn : 4294967297 < n) (σ : wt_St) (r0 : wt_RI σ) : wt_T (wp_md_putsBack n σ) (fun q => wt_fr (fun i k => False) (fun i => i = 121) σ q ∧ wt_RI q) := by
  unfold wp_md_putsBack
  have k7 : (0 : Int32).toInt = 0 := by decide
  refine wt_T_it (fun s : Int32 × wt_St => wt_fr (fun i k => False) (fun i => i = 121) σ s.2 ∧ 0 ≤ (s.1).toInt ∧ wt_RI s.2) (fun s : Int32 × wt_St => ((338 : Int32).toInt - s.1.toInt + 0).toNat) (fun KK1 z2 I3 hKK1 => ?_) _ _ ?_ ?_
  · skip
    obtain ⟨l4, l5, l6⟩ := I3
    unfold wp_md_putsBack_B2
    have k8 : (338 : Int32).toInt = 338 := by decide
    have bb9 := wt_bd z2.1
    refine wt_T_if (fun h10 => ?_) (fun h10 => ?_)
    · skip
      have c11 := wt_cle h10
      refine wt_T_some ?_
      exact ⟨(wt_fr.tr wt_fr.rf l4 (fun i k h => h.elim) (fun i h => by (try dsimp only at h); exact (by omega))), l6⟩
    · skip
      have c12 := wt_ncle h10
      refine wt_T_gd (wt_ix (by omega) (by omega)) ?_
      refine wt_T_gd (wt_ix (by omega) (by omega)) ?_
      obtain ⟨σ13, eσ13⟩ : ∃ z : wt_St, z = wt_sa z2.2 121 (Int32.toNatClampNeg z2.1) (wt_ga z2.2 286 (Int32.toNatClampNeg z2.1)) := ⟨_, rfl⟩
      rw [← eσ13]
      have fσ13 := wt_fr_sa eσ13
      have vσ13 := wt_ceq (wt_v_sa eσ13)
      have bb14 := wt_tn z2.1
      have bb15 := wt_bd (wt_ga z2.2 286 (Int32.toNatClampNeg z2.1))
      have tt16 : (wt_ga z2.2 286 (Int32.toNatClampNeg z2.1)).toInt = (wt_ga σ 286 (Int32.toNatClampNeg z2.1)).toInt := congrArg Int32.toInt (l4.2 286 (by (try dsimp only); omega) (Int32.toNatClampNeg z2.1))
      have bb17 := wt_bd (wt_ga σ 286 (Int32.toNatClampNeg z2.1))
      have rσ13 := wt_RI_no l6 eσ13 121 122 (by decide) (by decide) (by decide)
      refine hKK1 _ ⟨(wt_fr.tr (wt_fr.tr wt_fr.rf l4 (fun i k h => h.elim) (fun i h => by (try dsimp only at h); exact (by omega))) fσ13 (fun i k h => h.elim) (fun i h => by (try dsimp only at h); exact (by omega))), (wt_nn (B := (338 : Int32)) (by omega) (by omega)), rσ13⟩ ?_
      show ((338 : Int32).toInt - (z2.1 + (1 : Int32)).toInt + 0).toNat < ((338 : Int32).toInt - z2.1.toInt + 0).toNat
      exact wt_mu (by omega) (by omega)
  · skip
    have k18 : (338 : Int32).toInt = 338 := by decide
    exact ⟨wt_fr.rf, (show 0 ≤ ((0 : Int32)).toInt by omega), r0⟩
  · skip
    have k19 : (338 : Int32).toInt = 338 := by decide
    show ((338 : Int32).toInt - (0 : Int32).toInt + 0).toNat < n
    omega
set_option maxRecDepth 100000 in
set_option maxHeartbeats 4000000 in
theorem wq_md_fault (n : Nat) (hn : 4294967297 < n) (σ : wt_St) (r0 : wt_RI σ) : wt_T (wp_md_fault n σ) (fun q => wt_fr (fun i k => (i = 108 ∧ k = 0)) (fun i => False) σ q.2 ∧ wt_RI q.2) := by
  unfold wp_md_fault
  obtain ⟨σ1, eσ1⟩ : ∃ z : wt_St, z = wt_sf σ 108 0 (0 : Int32) := ⟨_, rfl⟩
  rw [← eσ1]
  have fσ1 := wt_fr_sf eσ1
  have vσ1 := wt_ceq (wt_v_sf eσ1)
  have k2 : (0 : Int32).toInt = 0 := by decide
  have rσ1 := wt_RI_fno r0 eσ1 (Or.inr (by decide))
  refine wt_T_some ?_
  exact ⟨(wt_fr.tr wt_fr.rf fσ1 (fun i k h => by (try dsimp only at h); exact (by omega)) (fun i h => h.elim)), rσ1⟩
set_option maxRecDepth 100000 in
set_option maxHeartbeats 4000000 in
theorem wq_md_feed (n : Nat) (hn : 4294967297 < n) (x1 : Int32) (x2 : Int32) (x3 : Int32) (x4 : Int32) (x5 : Int32) (σ : wt_St) (r0 : wt_RI σ) : wt_T (wp_md_feed n x1 x2 x3 x4 x5 σ) (fun q => wt_fr (fun i k => (i = 108 ∧ k = 0) ∨ (i = 108 ∧ k = 1)) (fun i => i = 109) σ q.2 ∧ wt_RI q.2 ∧ (((wt_gf σ 108 1).toInt ≤ 480 → q.1.toInt = (wt_gf σ 108 1).toInt + 20 ∧ (wt_gf q.2 108 1).toInt = (wt_gf σ 108 1).toInt + 20) ∧ (480 < (wt_gf σ 108 1).toInt → q.1.toInt = -1 ∧ (wt_gf q.2 108 1).toInt = (wt_gf σ 108 1).toInt))) := by
  have bb1 := wt_bd x1
  have bb2 := wt_bd x2
  have bb3 := wt_bd x3
  have bb4 := wt_bd x4
  have bb5 := wt_bd x5
  unfold wp_md_feed
  obtain ⟨σ6, eσ6⟩ : ∃ z : wt_St, z = wt_sf σ 108 0 (0 : Int32) := ⟨_, rfl⟩
  rw [← eσ6]
  have fσ6 := wt_fr_sf eσ6
  have vσ6 := wt_ceq (wt_v_sf eσ6)
  have k7 : (0 : Int32).toInt = 0 := by decide
  have rσ6 := wt_RI_fno r0 eσ6 (Or.inr (by decide))
  have bb8 := wt_bd (wt_gf σ6 108 1)
  have g9 : 0 ≤ (wt_gf σ6 108 1).toInt ∧ (wt_gf σ6 108 1).toInt ≤ 500 := wt_R_gf rσ6 0 rfl
  have tt10 : (wt_gf σ6 108 1).toInt = (wt_gf σ 108 1).toInt := congrArg Int32.toInt (fσ6.1 108 1 (by (try dsimp only); omega))
  have bb11 := wt_bd (wt_gf σ 108 1)
  have g12 : 0 ≤ (wt_gf σ 108 1).toInt ∧ (wt_gf σ 108 1).toInt ≤ 500 := wt_R_gf r0 0 rfl
  have k13 : (20 : Int32).toInt = 20 := by decide
  obtain ⟨j14, j14a, j14b⟩ := wt_addI (wt_gf σ6 108 1) (20 : Int32)
  have k15 : (500 : Int32).toInt = 500 := by decide
  refine wt_T_if (fun h16 => ?_) (fun h16 => ?_)
  · skip
    have c17 := wt_cle h16
    refine wt_T_it (fun s : Int32 × wt_St => wt_fr (fun i k => (i = 108 ∧ k = 1)) (fun i => i = 109) σ6 s.2 ∧ 0 ≤ (s.1).toInt ∧ s.1.toInt ≤ 20 ∧ (wt_gf s.2 108 1).toInt = (wt_gf σ 108 1).toInt + s.1.toInt ∧ (wt_gf σ 108 1).toInt ≤ 480 ∧ wt_RI s.2) (fun s : Int32 × wt_St => ((20 : Int32).toInt - s.1.toInt + 0).toNat) (fun KK18 z19 I20 hKK18 => ?_) _ _ ?_ ?_
    · skip
      obtain ⟨l21, l22, l23, l24, l25, l26⟩ := I20
      unfold wp_md_feed_B23
      have bb27 := wt_bd (wt_gf z19.2 108 1)
      have g28 : 0 ≤ (wt_gf z19.2 108 1).toInt ∧ (wt_gf z19.2 108 1).toInt ≤ 500 := wt_R_gf l26 0 rfl
      have bb29 := wt_bd z19.1
      refine wt_T_if (fun h30 => ?_) (fun h30 => ?_)
      · skip
        have c31 := wt_cle h30
        refine wt_T_some ?_
        exact ⟨(wt_fr.tr (wt_fr.tr wt_fr.rf fσ6 (fun i k h => by (try dsimp only at h); exact Or.inl (by omega)) (fun i h => h.elim)) l21 (fun i k h => by (try dsimp only at h); exact Or.inr ((by omega))) (fun i h => by (try dsimp only at h); exact (by omega))), l26, (show (((wt_gf σ 108 1).toInt ≤ 480 → (wt_gf z19.2 108 1).toInt = (wt_gf σ 108 1).toInt + 20 ∧ (wt_gf z19.2 108 1).toInt = (wt_gf σ 108 1).toInt + 20) ∧ (480 < (wt_gf σ 108 1).toInt → (wt_gf z19.2 108 1).toInt = -1 ∧ (wt_gf z19.2 108 1).toInt = (wt_gf σ 108 1).toInt)) from by omega)⟩
      · skip
        have c32 := wt_ncle h30
        have k33 : (4 : Int32).toInt = 4 := by decide
        refine wt_T_if (fun h34 => ?_) (fun h34 => ?_)
        · skip
          have c35 := wt_cle h34
          have k36 : (8 : Int32).toInt = 8 := by decide
          refine wt_T_if (fun h37 => ?_) (fun h37 => ?_)
          · skip
            have c38 := wt_cle h37
            have k39 : (12 : Int32).toInt = 12 := by decide
            refine wt_T_if (fun h40 => ?_) (fun h40 => ?_)
            · skip
              have c41 := wt_cle h40
              have k42 : (16 : Int32).toInt = 16 := by decide
              refine wt_T_if (fun h43 => ?_) (fun h43 => ?_)
              · skip
                have c44 := wt_cle h43
                unfold wp_md_feed_B76
                refine wt_T_gd (wt_ix (by omega) (by omega)) ?_
                obtain ⟨σ45, eσ45⟩ : ∃ z : wt_St, z = wt_sa z19.2 109 (Int32.toNatClampNeg (wt_gf z19.2 108 1)) ((x5 >>> (((24 : Int32) - ((8 : Int32) * (wt_rem z19.1 (4 : Int32)))) &&& 31)) &&& (255 : Int32)) := ⟨_, rfl⟩
                rw [← eσ45]
                have fσ45 := wt_fr_sa eσ45
                have vσ45 := wt_ceq (wt_v_sa eσ45)
                have bb46 := wt_tn (wt_gf z19.2 108 1)
                have k47 : (24 : Int32).toInt = 24 := by decide
                have bb48 := wt_bd (wt_rem z19.1 (4 : Int32))
                obtain ⟨j49, j49a, j49b⟩ := wt_mulI (8 : Int32) (wt_rem z19.1 (4 : Int32))
                rw [show (8 : Int32).toInt = 8 from by decide] at j49a
                obtain ⟨j50, j50a, j50b⟩ := wt_subI (24 : Int32) ((8 : Int32) * (wt_rem z19.1 (4 : Int32)))
                have k51 : (31 : Int32).toInt = 31 := by decide
                have bb52 := wt_bd (((24 : Int32) - ((8 : Int32) * (wt_rem z19.1 (4 : Int32)))) &&& 31)
                have bb53 := wt_bd (x5 >>> (((24 : Int32) - ((8 : Int32) * (wt_rem z19.1 (4 : Int32)))) &&& 31))
                have k54 : (255 : Int32).toInt = 255 := by decide
                have bb55 := wt_bd ((x5 >>> (((24 : Int32) - ((8 : Int32) * (wt_rem z19.1 (4 : Int32)))) &&& 31)) &&& (255 : Int32))
                have rσ45 := wt_RI_no l26 eσ45 109 110 (by decide) (by decide) (by decide)
                obtain ⟨σ56, eσ56⟩ : ∃ z : wt_St, z = wt_sf σ45 108 1 ((wt_gf σ45 108 1) + (1 : Int32)) := ⟨_, rfl⟩
                rw [← eσ56]
                have fσ56 := wt_fr_sf eσ56
                have vσ56 := wt_ceq (wt_v_sf eσ56)
                have bb57 := wt_bd (wt_gf σ45 108 1)
                have g58 : 0 ≤ (wt_gf σ45 108 1).toInt ∧ (wt_gf σ45 108 1).toInt ≤ 500 := wt_R_gf rσ45 0 rfl
                have tt59 : (wt_gf σ45 108 1).toInt = (wt_gf z19.2 108 1).toInt := congrArg Int32.toInt (fσ45.1 108 1 (fun z => z))
                have k60 : (1 : Int32).toInt = 1 := by decide
                obtain ⟨j61, j61a, j61b⟩ := wt_addI (wt_gf σ45 108 1) (1 : Int32)
                have rσ56 := wt_RI_fin rσ45 eσ56 0 rfl rfl (show 0 ≤ ((wt_gf σ45 108 1) + (1 : Int32)).toInt by omega) (show ((wt_gf σ45 108 1) + (1 : Int32)).toInt ≤ 500 by omega)
                obtain ⟨j62, j62a, j62b⟩ := wt_addI z19.1 (1 : Int32)
                have bb63 := wt_bd (wt_gf σ56 108 1)
                have g64 : 0 ≤ (wt_gf σ56 108 1).toInt ∧ (wt_gf σ56 108 1).toInt ≤ 500 := wt_R_gf rσ56 0 rfl
                refine hKK18 _ ⟨(wt_fr.tr (wt_fr.tr (wt_fr.tr wt_fr.rf l21 (fun i k h => by (try dsimp only at h); exact (by omega)) (fun i h => by (try dsimp only at h); exact (by omega))) fσ45 (fun i k h => h.elim) (fun i h => by (try dsimp only at h); exact (by omega))) fσ56 (fun i k h => by (try dsimp only at h); exact (by omega)) (fun i h => h.elim)), (wt_nn (B := (20 : Int32)) (by omega) (by omega)), (show (z19.1 + (1 : Int32)).toInt ≤ 20 by omega), (show (wt_gf σ56 108 1).toInt = (wt_gf σ 108 1).toInt + (z19.1 + (1 : Int32)).toInt by omega), (show (wt_gf σ 108 1).toInt ≤ 480 by omega), rσ56⟩ ?_
                show ((20 : Int32).toInt - (z19.1 + (1 : Int32)).toInt + 0).toNat < ((20 : Int32).toInt - z19.1.toInt + 0).toNat
                exact wt_mu (by omega) (by omega)
              · skip
                have c65 := wt_ncle h43
                unfold wp_md_feed_B76
                refine wt_T_gd (wt_ix (by omega) (by omega)) ?_
                obtain ⟨σ66, eσ66⟩ : ∃ z : wt_St, z = wt_sa z19.2 109 (Int32.toNatClampNeg (wt_gf z19.2 108 1)) ((x4 >>> (((24 : Int32) - ((8 : Int32) * (wt_rem z19.1 (4 : Int32)))) &&& 31)) &&& (255 : Int32)) := ⟨_, rfl⟩
                rw [← eσ66]
                have fσ66 := wt_fr_sa eσ66
                have vσ66 := wt_ceq (wt_v_sa eσ66)
                have bb67 := wt_tn (wt_gf z19.2 108 1)
                have k68 : (24 : Int32).toInt = 24 := by decide
                have bb69 := wt_bd (wt_rem z19.1 (4 : Int32))
                obtain ⟨j70, j70a, j70b⟩ := wt_mulI (8 : Int32) (wt_rem z19.1 (4 : Int32))
                rw [show (8 : Int32).toInt = 8 from by decide] at j70a
                obtain ⟨j71, j71a, j71b⟩ := wt_subI (24 : Int32) ((8 : Int32) * (wt_rem z19.1 (4 : Int32)))
                have k72 : (31 : Int32).toInt = 31 := by decide
                have bb73 := wt_bd (((24 : Int32) - ((8 : Int32) * (wt_rem z19.1 (4 : Int32)))) &&& 31)
                have bb74 := wt_bd (x4 >>> (((24 : Int32) - ((8 : Int32) * (wt_rem z19.1 (4 : Int32)))) &&& 31))
                have k75 : (255 : Int32).toInt = 255 := by decide
                have bb76 := wt_bd ((x4 >>> (((24 : Int32) - ((8 : Int32) * (wt_rem z19.1 (4 : Int32)))) &&& 31)) &&& (255 : Int32))
                have rσ66 := wt_RI_no l26 eσ66 109 110 (by decide) (by decide) (by decide)
                obtain ⟨σ77, eσ77⟩ : ∃ z : wt_St, z = wt_sf σ66 108 1 ((wt_gf σ66 108 1) + (1 : Int32)) := ⟨_, rfl⟩
                rw [← eσ77]
                have fσ77 := wt_fr_sf eσ77
                have vσ77 := wt_ceq (wt_v_sf eσ77)
                have bb78 := wt_bd (wt_gf σ66 108 1)
                have g79 : 0 ≤ (wt_gf σ66 108 1).toInt ∧ (wt_gf σ66 108 1).toInt ≤ 500 := wt_R_gf rσ66 0 rfl
                have tt80 : (wt_gf σ66 108 1).toInt = (wt_gf z19.2 108 1).toInt := congrArg Int32.toInt (fσ66.1 108 1 (fun z => z))
                have k81 : (1 : Int32).toInt = 1 := by decide
                obtain ⟨j82, j82a, j82b⟩ := wt_addI (wt_gf σ66 108 1) (1 : Int32)
                have rσ77 := wt_RI_fin rσ66 eσ77 0 rfl rfl (show 0 ≤ ((wt_gf σ66 108 1) + (1 : Int32)).toInt by omega) (show ((wt_gf σ66 108 1) + (1 : Int32)).toInt ≤ 500 by omega)
                obtain ⟨j83, j83a, j83b⟩ := wt_addI z19.1 (1 : Int32)
                have bb84 := wt_bd (wt_gf σ77 108 1)
                have g85 : 0 ≤ (wt_gf σ77 108 1).toInt ∧ (wt_gf σ77 108 1).toInt ≤ 500 := wt_R_gf rσ77 0 rfl
                refine hKK18 _ ⟨(wt_fr.tr (wt_fr.tr (wt_fr.tr wt_fr.rf l21 (fun i k h => by (try dsimp only at h); exact (by omega)) (fun i h => by (try dsimp only at h); exact (by omega))) fσ66 (fun i k h => h.elim) (fun i h => by (try dsimp only at h); exact (by omega))) fσ77 (fun i k h => by (try dsimp only at h); exact (by omega)) (fun i h => h.elim)), (wt_nn (B := (20 : Int32)) (by omega) (by omega)), (show (z19.1 + (1 : Int32)).toInt ≤ 20 by omega), (show (wt_gf σ77 108 1).toInt = (wt_gf σ 108 1).toInt + (z19.1 + (1 : Int32)).toInt by omega), (show (wt_gf σ 108 1).toInt ≤ 480 by omega), rσ77⟩ ?_
                show ((20 : Int32).toInt - (z19.1 + (1 : Int32)).toInt + 0).toNat < ((20 : Int32).toInt - z19.1.toInt + 0).toNat
                exact wt_mu (by omega) (by omega)
            · skip
              have c86 := wt_ncle h40
              unfold wp_md_feed_B76
              refine wt_T_gd (wt_ix (by omega) (by omega)) ?_
              obtain ⟨σ87, eσ87⟩ : ∃ z : wt_St, z = wt_sa z19.2 109 (Int32.toNatClampNeg (wt_gf z19.2 108 1)) ((x3 >>> (((24 : Int32) - ((8 : Int32) * (wt_rem z19.1 (4 : Int32)))) &&& 31)) &&& (255 : Int32)) := ⟨_, rfl⟩
              rw [← eσ87]
              have fσ87 := wt_fr_sa eσ87
              have vσ87 := wt_ceq (wt_v_sa eσ87)
              have bb88 := wt_tn (wt_gf z19.2 108 1)
              have k89 : (24 : Int32).toInt = 24 := by decide
              have bb90 := wt_bd (wt_rem z19.1 (4 : Int32))
              obtain ⟨j91, j91a, j91b⟩ := wt_mulI (8 : Int32) (wt_rem z19.1 (4 : Int32))
              rw [show (8 : Int32).toInt = 8 from by decide] at j91a
              obtain ⟨j92, j92a, j92b⟩ := wt_subI (24 : Int32) ((8 : Int32) * (wt_rem z19.1 (4 : Int32)))
              have k93 : (31 : Int32).toInt = 31 := by decide
              have bb94 := wt_bd (((24 : Int32) - ((8 : Int32) * (wt_rem z19.1 (4 : Int32)))) &&& 31)
              have bb95 := wt_bd (x3 >>> (((24 : Int32) - ((8 : Int32) * (wt_rem z19.1 (4 : Int32)))) &&& 31))
              have k96 : (255 : Int32).toInt = 255 := by decide
              have bb97 := wt_bd ((x3 >>> (((24 : Int32) - ((8 : Int32) * (wt_rem z19.1 (4 : Int32)))) &&& 31)) &&& (255 : Int32))
              have rσ87 := wt_RI_no l26 eσ87 109 110 (by decide) (by decide) (by decide)
              obtain ⟨σ98, eσ98⟩ : ∃ z : wt_St, z = wt_sf σ87 108 1 ((wt_gf σ87 108 1) + (1 : Int32)) := ⟨_, rfl⟩
              rw [← eσ98]
              have fσ98 := wt_fr_sf eσ98
              have vσ98 := wt_ceq (wt_v_sf eσ98)
              have bb99 := wt_bd (wt_gf σ87 108 1)
              have g100 : 0 ≤ (wt_gf σ87 108 1).toInt ∧ (wt_gf σ87 108 1).toInt ≤ 500 := wt_R_gf rσ87 0 rfl
              have tt101 : (wt_gf σ87 108 1).toInt = (wt_gf z19.2 108 1).toInt := congrArg Int32.toInt (fσ87.1 108 1 (fun z => z))
              have k102 : (1 : Int32).toInt = 1 := by decide
              obtain ⟨j103, j103a, j103b⟩ := wt_addI (wt_gf σ87 108 1) (1 : Int32)
              have rσ98 := wt_RI_fin rσ87 eσ98 0 rfl rfl (show 0 ≤ ((wt_gf σ87 108 1) + (1 : Int32)).toInt by omega) (show ((wt_gf σ87 108 1) + (1 : Int32)).toInt ≤ 500 by omega)
              obtain ⟨j104, j104a, j104b⟩ := wt_addI z19.1 (1 : Int32)
              have bb105 := wt_bd (wt_gf σ98 108 1)
              have g106 : 0 ≤ (wt_gf σ98 108 1).toInt ∧ (wt_gf σ98 108 1).toInt ≤ 500 := wt_R_gf rσ98 0 rfl
              refine hKK18 _ ⟨(wt_fr.tr (wt_fr.tr (wt_fr.tr wt_fr.rf l21 (fun i k h => by (try dsimp only at h); exact (by omega)) (fun i h => by (try dsimp only at h); exact (by omega))) fσ87 (fun i k h => h.elim) (fun i h => by (try dsimp only at h); exact (by omega))) fσ98 (fun i k h => by (try dsimp only at h); exact (by omega)) (fun i h => h.elim)), (wt_nn (B := (20 : Int32)) (by omega) (by omega)), (show (z19.1 + (1 : Int32)).toInt ≤ 20 by omega), (show (wt_gf σ98 108 1).toInt = (wt_gf σ 108 1).toInt + (z19.1 + (1 : Int32)).toInt by omega), (show (wt_gf σ 108 1).toInt ≤ 480 by omega), rσ98⟩ ?_
              show ((20 : Int32).toInt - (z19.1 + (1 : Int32)).toInt + 0).toNat < ((20 : Int32).toInt - z19.1.toInt + 0).toNat
              exact wt_mu (by omega) (by omega)
          · skip
            have c107 := wt_ncle h37
            unfold wp_md_feed_B76
            refine wt_T_gd (wt_ix (by omega) (by omega)) ?_
            obtain ⟨σ108, eσ108⟩ : ∃ z : wt_St, z = wt_sa z19.2 109 (Int32.toNatClampNeg (wt_gf z19.2 108 1)) ((x2 >>> (((24 : Int32) - ((8 : Int32) * (wt_rem z19.1 (4 : Int32)))) &&& 31)) &&& (255 : Int32)) := ⟨_, rfl⟩
            rw [← eσ108]
            have fσ108 := wt_fr_sa eσ108
            have vσ108 := wt_ceq (wt_v_sa eσ108)
            have bb109 := wt_tn (wt_gf z19.2 108 1)
            have k110 : (24 : Int32).toInt = 24 := by decide
            have bb111 := wt_bd (wt_rem z19.1 (4 : Int32))
            obtain ⟨j112, j112a, j112b⟩ := wt_mulI (8 : Int32) (wt_rem z19.1 (4 : Int32))
            rw [show (8 : Int32).toInt = 8 from by decide] at j112a
            obtain ⟨j113, j113a, j113b⟩ := wt_subI (24 : Int32) ((8 : Int32) * (wt_rem z19.1 (4 : Int32)))
            have k114 : (31 : Int32).toInt = 31 := by decide
            have bb115 := wt_bd (((24 : Int32) - ((8 : Int32) * (wt_rem z19.1 (4 : Int32)))) &&& 31)
            have bb116 := wt_bd (x2 >>> (((24 : Int32) - ((8 : Int32) * (wt_rem z19.1 (4 : Int32)))) &&& 31))
            have k117 : (255 : Int32).toInt = 255 := by decide
            have bb118 := wt_bd ((x2 >>> (((24 : Int32) - ((8 : Int32) * (wt_rem z19.1 (4 : Int32)))) &&& 31)) &&& (255 : Int32))
            have rσ108 := wt_RI_no l26 eσ108 109 110 (by decide) (by decide) (by decide)
            obtain ⟨σ119, eσ119⟩ : ∃ z : wt_St, z = wt_sf σ108 108 1 ((wt_gf σ108 108 1) + (1 : Int32)) := ⟨_, rfl⟩
            rw [← eσ119]
            have fσ119 := wt_fr_sf eσ119
            have vσ119 := wt_ceq (wt_v_sf eσ119)
            have bb120 := wt_bd (wt_gf σ108 108 1)
            have g121 : 0 ≤ (wt_gf σ108 108 1).toInt ∧ (wt_gf σ108 108 1).toInt ≤ 500 := wt_R_gf rσ108 0 rfl
            have tt122 : (wt_gf σ108 108 1).toInt = (wt_gf z19.2 108 1).toInt := congrArg Int32.toInt (fσ108.1 108 1 (fun z => z))
            have k123 : (1 : Int32).toInt = 1 := by decide
            obtain ⟨j124, j124a, j124b⟩ := wt_addI (wt_gf σ108 108 1) (1 : Int32)
            have rσ119 := wt_RI_fin rσ108 eσ119 0 rfl rfl (show 0 ≤ ((wt_gf σ108 108 1) + (1 : Int32)).toInt by omega) (show ((wt_gf σ108 108 1) + (1 : Int32)).toInt ≤ 500 by omega)
            obtain ⟨j125, j125a, j125b⟩ := wt_addI z19.1 (1 : Int32)
            have bb126 := wt_bd (wt_gf σ119 108 1)
            have g127 : 0 ≤ (wt_gf σ119 108 1).toInt ∧ (wt_gf σ119 108 1).toInt ≤ 500 := wt_R_gf rσ119 0 rfl
            refine hKK18 _ ⟨(wt_fr.tr (wt_fr.tr (wt_fr.tr wt_fr.rf l21 (fun i k h => by (try dsimp only at h); exact (by omega)) (fun i h => by (try dsimp only at h); exact (by omega))) fσ108 (fun i k h => h.elim) (fun i h => by (try dsimp only at h); exact (by omega))) fσ119 (fun i k h => by (try dsimp only at h); exact (by omega)) (fun i h => h.elim)), (wt_nn (B := (20 : Int32)) (by omega) (by omega)), (show (z19.1 + (1 : Int32)).toInt ≤ 20 by omega), (show (wt_gf σ119 108 1).toInt = (wt_gf σ 108 1).toInt + (z19.1 + (1 : Int32)).toInt by omega), (show (wt_gf σ 108 1).toInt ≤ 480 by omega), rσ119⟩ ?_
            show ((20 : Int32).toInt - (z19.1 + (1 : Int32)).toInt + 0).toNat < ((20 : Int32).toInt - z19.1.toInt + 0).toNat
            exact wt_mu (by omega) (by omega)
        · skip
          have c128 := wt_ncle h34
          unfold wp_md_feed_B76
          refine wt_T_gd (wt_ix (by omega) (by omega)) ?_
          obtain ⟨σ129, eσ129⟩ : ∃ z : wt_St, z = wt_sa z19.2 109 (Int32.toNatClampNeg (wt_gf z19.2 108 1)) ((x1 >>> (((24 : Int32) - ((8 : Int32) * (wt_rem z19.1 (4 : Int32)))) &&& 31)) &&& (255 : Int32)) := ⟨_, rfl⟩
          rw [← eσ129]
          have fσ129 := wt_fr_sa eσ129
          have vσ129 := wt_ceq (wt_v_sa eσ129)
          have bb130 := wt_tn (wt_gf z19.2 108 1)
          have k131 : (24 : Int32).toInt = 24 := by decide
          have k132 : (8 : Int32).toInt = 8 := by decide
          have bb133 := wt_bd (wt_rem z19.1 (4 : Int32))
          obtain ⟨j134, j134a, j134b⟩ := wt_mulI (8 : Int32) (wt_rem z19.1 (4 : Int32))
          rw [show (8 : Int32).toInt = 8 from by decide] at j134a
          obtain ⟨j135, j135a, j135b⟩ := wt_subI (24 : Int32) ((8 : Int32) * (wt_rem z19.1 (4 : Int32)))
          have k136 : (31 : Int32).toInt = 31 := by decide
          have bb137 := wt_bd (((24 : Int32) - ((8 : Int32) * (wt_rem z19.1 (4 : Int32)))) &&& 31)
          have bb138 := wt_bd (x1 >>> (((24 : Int32) - ((8 : Int32) * (wt_rem z19.1 (4 : Int32)))) &&& 31))
          have k139 : (255 : Int32).toInt = 255 := by decide
          have bb140 := wt_bd ((x1 >>> (((24 : Int32) - ((8 : Int32) * (wt_rem z19.1 (4 : Int32)))) &&& 31)) &&& (255 : Int32))
          have rσ129 := wt_RI_no l26 eσ129 109 110 (by decide) (by decide) (by decide)
          obtain ⟨σ141, eσ141⟩ : ∃ z : wt_St, z = wt_sf σ129 108 1 ((wt_gf σ129 108 1) + (1 : Int32)) := ⟨_, rfl⟩
          rw [← eσ141]
          have fσ141 := wt_fr_sf eσ141
          have vσ141 := wt_ceq (wt_v_sf eσ141)
          have bb142 := wt_bd (wt_gf σ129 108 1)
          have g143 : 0 ≤ (wt_gf σ129 108 1).toInt ∧ (wt_gf σ129 108 1).toInt ≤ 500 := wt_R_gf rσ129 0 rfl
          have tt144 : (wt_gf σ129 108 1).toInt = (wt_gf z19.2 108 1).toInt := congrArg Int32.toInt (fσ129.1 108 1 (fun z => z))
          have k145 : (1 : Int32).toInt = 1 := by decide
          obtain ⟨j146, j146a, j146b⟩ := wt_addI (wt_gf σ129 108 1) (1 : Int32)
          have rσ141 := wt_RI_fin rσ129 eσ141 0 rfl rfl (show 0 ≤ ((wt_gf σ129 108 1) + (1 : Int32)).toInt by omega) (show ((wt_gf σ129 108 1) + (1 : Int32)).toInt ≤ 500 by omega)
          obtain ⟨j147, j147a, j147b⟩ := wt_addI z19.1 (1 : Int32)
          have bb148 := wt_bd (wt_gf σ141 108 1)
          have g149 : 0 ≤ (wt_gf σ141 108 1).toInt ∧ (wt_gf σ141 108 1).toInt ≤ 500 := wt_R_gf rσ141 0 rfl
          refine hKK18 _ ⟨(wt_fr.tr (wt_fr.tr (wt_fr.tr wt_fr.rf l21 (fun i k h => by (try dsimp only at h); exact (by omega)) (fun i h => by (try dsimp only at h); exact (by omega))) fσ129 (fun i k h => h.elim) (fun i h => by (try dsimp only at h); exact (by omega))) fσ141 (fun i k h => by (try dsimp only at h); exact (by omega)) (fun i h => h.elim)), (wt_nn (B := (20 : Int32)) (by omega) (by omega)), (show (z19.1 + (1 : Int32)).toInt ≤ 20 by omega), (show (wt_gf σ141 108 1).toInt = (wt_gf σ 108 1).toInt + (z19.1 + (1 : Int32)).toInt by omega), (show (wt_gf σ 108 1).toInt ≤ 480 by omega), rσ141⟩ ?_
          show ((20 : Int32).toInt - (z19.1 + (1 : Int32)).toInt + 0).toNat < ((20 : Int32).toInt - z19.1.toInt + 0).toNat
          exact wt_mu (by omega) (by omega)
    · skip
      exact ⟨wt_fr.rf, (show 0 ≤ ((0 : Int32)).toInt by omega), (show (0 : Int32).toInt ≤ 20 by omega), (show (wt_gf σ6 108 1).toInt = (wt_gf σ 108 1).toInt + (0 : Int32).toInt by omega), (show (wt_gf σ 108 1).toInt ≤ 480 by omega), rσ6⟩
    · skip
      show ((20 : Int32).toInt - (0 : Int32).toInt + 0).toNat < n
      omega
  · skip
    have c150 := wt_ncle h16
    refine wt_T_some ?_
    have k151 := wt_lm1
    exact ⟨(wt_fr.tr wt_fr.rf fσ6 (fun i k h => by (try dsimp only at h); exact Or.inl (by omega)) (fun i h => h.elim)), rσ6, (show (((wt_gf σ 108 1).toInt ≤ 480 → (-1 : Int32).toInt = (wt_gf σ 108 1).toInt + 20 ∧ (wt_gf σ6 108 1).toInt = (wt_gf σ 108 1).toInt + 20) ∧ (480 < (wt_gf σ 108 1).toInt → (-1 : Int32).toInt = -1 ∧ (wt_gf σ6 108 1).toInt = (wt_gf σ 108 1).toInt)) from by omega)⟩
set_option maxRecDepth 100000 in
set_option maxHeartbeats 4000000 in
theorem wq_md_isOf (n : Nat) (hn : 4294967297 < n) (x1 : Int32) (x2 : Int32) (x3 : Int32) (σ : wt_St) (r0 : wt_RI σ) (p0 : 0 ≤ x1.toInt) (p1 : x1.toInt ≤ 60) (p2 : 0 ≤ x2.toInt) (p3 : x2.toInt ≤ 7) (p4 : 0 ≤ x3.toInt) (p5 : x3.toInt ≤ 11) : wt_T (wp_md_isOf n x1 x2 x3 σ) (fun q => q.2 = σ) := by
  have bb1 := wt_bd x1
  have bb2 := wt_bd x2
  have bb3 := wt_bd x3
  unfold wp_md_isOf
  have k0 : (0 : Int32).toInt = 0 := by decide
  refine wt_T_gd (wt_ix (by omega) (by omega)) ?_
  refine wt_T_gd (wt_ix (by omega) (by omega)) ?_
  refine wt_T_gd (wt_ix (by omega) (by omega)) ?_
  have bb4 := wt_tn x2
  have bb5 := wt_tn x3
  have bb6 := wt_bd (wt_ga σ (255 + (Int32.toNatClampNeg x2)) (Int32.toNatClampNeg x3))
  have g7 : 0 ≤ (wt_ga σ (255 + (Int32.toNatClampNeg x2)) (Int32.toNatClampNeg x3)).toInt ∧ (wt_ga σ (255 + (Int32.toNatClampNeg x2)) (Int32.toNatClampNeg x3)).toInt ≤ 59 := wt_R_ga r0 10 rfl (255 + (Int32.toNatClampNeg x2)) (show 255 ≤ 255 + (Int32.toNatClampNeg x2) by omega) (show 255 + (Int32.toNatClampNeg x2) < 263 by omega) (Int32.toNatClampNeg x3)
  refine wt_T_gd (wt_ix (by omega) (by omega)) ?_
  have bb8 := wt_tn x1
  have bb9 := wt_bd (wt_ga σ 130 (Int32.toNatClampNeg x1))
  have bb10 := wt_tn (wt_ga σ (255 + (Int32.toNatClampNeg x2)) (Int32.toNatClampNeg x3))
  have bb11 := wt_bd (wt_ga σ 130 (Int32.toNatClampNeg (wt_ga σ (255 + (Int32.toNatClampNeg x2)) (Int32.toNatClampNeg x3))))
  refine wt_T_if (fun h12 => ?_) (fun h12 => ?_)
  · skip
    have c13 := wt_ceq h12
    refine wt_T_some ?_
    exact rfl
  · skip
    have c14 := wt_nceq h12
    refine wt_T_some ?_
    exact rfl
set_option maxRecDepth 100000 in
set_option maxHeartbeats 4000000 in
theorem wq_md_mayFollow (n : Nat) (hn : 4294967297 < n) (x1 : Int32) (x2 : Int32) (σ : wt_St) (r0 : wt_RI σ) (p0 : 0 ≤ x1.toInt) (p1 : x1.toInt ≤ 59) (p2 : 0 ≤ x2.toInt) (p3 : x2.toInt ≤ 59) : wt_T (wp_md_mayFollow n x1 x2 σ) (fun q => q.2 = σ) := by
  have bb1 := wt_bd x1
  have bb2 := wt_bd x2
  unfold wp_md_mayFollow
  have k0 : (0 : Int32).toInt = 0 := by decide
  refine wt_T_gd (wt_ix (by omega) (by omega)) ?_
  have bb3 := wt_tn x1
  have bb4 := wt_bd (wt_ga σ 128 (Int32.toNatClampNeg x1))
  have g5 : 0 ≤ (wt_ga σ 128 (Int32.toNatClampNeg x1)).toInt ∧ (wt_ga σ 128 (Int32.toNatClampNeg x1)).toInt ≤ 3 := wt_R_ga r0 6 rfl 128 (by decide) (by decide) (Int32.toNatClampNeg x1)
  refine wt_T_gd (wt_ix (by omega) (by omega)) ?_
  refine wt_T_gd (wt_ix (by omega) (by omega)) ?_
  have bb6 := wt_tn (wt_ga σ 128 (Int32.toNatClampNeg x1))
  have bb7 := wt_bd (wt_ga σ 119 (Int32.toNatClampNeg (wt_ga σ 128 (Int32.toNatClampNeg x1))))
  have bb8 := wt_tn x2
  have bb9 := wt_bd (wt_ga σ 128 (Int32.toNatClampNeg x2))
  have g10 : 0 ≤ (wt_ga σ 128 (Int32.toNatClampNeg x2)).toInt ∧ (wt_ga σ 128 (Int32.toNatClampNeg x2)).toInt ≤ 3 := wt_R_ga r0 6 rfl 128 (by decide) (by decide) (Int32.toNatClampNeg x2)
  have k11 : (31 : Int32).toInt = 31 := by decide
  have bb12 := wt_bd ((wt_ga σ 128 (Int32.toNatClampNeg x2)) &&& 31)
  have bb13 := wt_bd ((wt_ga σ 119 (Int32.toNatClampNeg (wt_ga σ 128 (Int32.toNatClampNeg x1)))) >>> ((wt_ga σ 128 (Int32.toNatClampNeg x2)) &&& 31))
  have k14 : (1 : Int32).toInt = 1 := by decide
  have bb15 := wt_bd (((wt_ga σ 119 (Int32.toNatClampNeg (wt_ga σ 128 (Int32.toNatClampNeg x1)))) >>> ((wt_ga σ 128 (Int32.toNatClampNeg x2)) &&& 31)) &&& (1 : Int32))
  refine wt_T_if (fun h16 => ?_) (fun h16 => ?_)
  · skip
    have c17 := wt_ceq h16
    refine wt_T_some ?_
    exact rfl
  · skip
    have c18 := wt_nceq h16
    refine wt_T_some ?_
    exact rfl
set_option maxRecDepth 100000 in
set_option maxHeartbeats 4000000 in
theorem wq_md_priceOf (n : Nat) (hn : 4294967297 < n) (x1 : Int32) (σ : wt_St) (r0 : wt_RI σ) (p0 : 0 ≤ x1.toInt) (p1 : x1.toInt ≤ 59) : wt_T (wp_md_priceOf n x1 σ) (fun q => q.2 = σ) := by
  have bb1 := wt_bd x1
  unfold wp_md_priceOf
  have k7 : (0 : Int32).toInt = 0 := by decide
  refine wt_T_it (fun s : Int32 × Int32 × wt_St => s.2.2 = σ ∧ 0 ≤ (s.2.1).toInt) (fun s : Int32 × Int32 × wt_St => ((wt_ga s.2.2 126 (Int32.toNatClampNeg x1)).toInt - s.2.1.toInt + 0).toNat) (fun KK2 z3 I4 hKK2 => ?_) _ _ ?_ ?_
  · skip
    obtain ⟨l5, l6⟩ := I4
    unfold wp_md_priceOf_B4
    rw [l5]
    have bb8 := wt_tn x1
    have bb9 := wt_bd (wt_ga σ 126 (Int32.toNatClampNeg x1))
    have g10 : 0 ≤ (wt_ga σ 126 (Int32.toNatClampNeg x1)).toInt ∧ (wt_ga σ 126 (Int32.toNatClampNeg x1)).toInt ≤ 9 := wt_R_ga r0 5 rfl 126 (by decide) (by decide) (Int32.toNatClampNeg x1)
    have bb11 := wt_bd z3.2.1
    refine wt_T_gd (wt_ix (by omega) (by omega)) ?_
    refine wt_T_if (fun h12 => ?_) (fun h12 => ?_)
    · skip
      have c13 := wt_cle h12
      refine wt_T_some ?_
      exact rfl
    · skip
      have c14 := wt_ncle h12
      refine wt_T_gd (wt_ix (by omega) (by omega)) ?_
      refine wt_T_gd (wt_ix (by omega) (by omega)) ?_
      have bb15 := wt_tn z3.2.1
      have bb16 := wt_bd (wt_ga σ (193 + (Int32.toNatClampNeg x1)) (Int32.toNatClampNeg z3.2.1))
      have g17 : 0 ≤ (wt_ga σ (193 + (Int32.toNatClampNeg x1)) (Int32.toNatClampNeg z3.2.1)).toInt ∧ (wt_ga σ (193 + (Int32.toNatClampNeg x1)) (Int32.toNatClampNeg z3.2.1)).toInt ≤ 25 := wt_R_ga r0 8 rfl (193 + (Int32.toNatClampNeg x1)) (show 193 ≤ 193 + (Int32.toNatClampNeg x1) by omega) (show 193 + (Int32.toNatClampNeg x1) < 253 by omega) (Int32.toNatClampNeg z3.2.1)
      refine wt_T_gd (wt_ix (by omega) (by omega)) ?_
      have bb18 := wt_bd z3.1
      have bb19 := wt_tn (wt_ga σ (193 + (Int32.toNatClampNeg x1)) (Int32.toNatClampNeg z3.2.1))
      have bb20 := wt_bd (wt_ga σ 115 (Int32.toNatClampNeg (wt_ga σ (193 + (Int32.toNatClampNeg x1)) (Int32.toNatClampNeg z3.2.1))))
      obtain ⟨j21, j21a, j21b⟩ := wt_addI z3.1 (wt_ga σ 115 (Int32.toNatClampNeg (wt_ga σ (193 + (Int32.toNatClampNeg x1)) (Int32.toNatClampNeg z3.2.1))))
      refine hKK2 _ ⟨rfl, (wt_nn (B := wt_ga z3.2.2 126 (Int32.toNatClampNeg x1)) (by omega) (by first | (rw [l5]; omega) | (rw [l5]; done) | omega))⟩ ?_
      show ((wt_ga σ 126 (Int32.toNatClampNeg x1)).toInt - (z3.2.1 + (1 : Int32)).toInt + 0).toNat < ((wt_ga z3.2.2 126 (Int32.toNatClampNeg x1)).toInt - z3.2.1.toInt + 0).toNat
      exact wt_mu (by first | (rw [l5]; omega) | (rw [l5]; done) | omega) (by first | (rw [l5]; omega) | (rw [l5]; done) | omega)
  · skip
    have bb22 := wt_tn x1
    have bb23 := wt_bd (wt_ga σ 126 (Int32.toNatClampNeg x1))
    have g24 : 0 ≤ (wt_ga σ 126 (Int32.toNatClampNeg x1)).toInt ∧ (wt_ga σ 126 (Int32.toNatClampNeg x1)).toInt ≤ 9 := wt_R_ga r0 5 rfl 126 (by decide) (by decide) (Int32.toNatClampNeg x1)
    exact ⟨rfl, (show 0 ≤ ((0 : Int32)).toInt by omega)⟩
  · skip
    have bb25 := wt_tn x1
    have bb26 := wt_bd (wt_ga σ 126 (Int32.toNatClampNeg x1))
    have g27 : 0 ≤ (wt_ga σ 126 (Int32.toNatClampNeg x1)).toInt ∧ (wt_ga σ 126 (Int32.toNatClampNeg x1)).toInt ≤ 9 := wt_R_ga r0 5 rfl 126 (by decide) (by decide) (Int32.toNatClampNeg x1)
    show ((wt_ga σ 126 (Int32.toNatClampNeg x1)).toInt - (0 : Int32).toInt + 0).toNat < n
    omega
set_option maxRecDepth 100000 in
set_option maxHeartbeats 4000000 in
theorem wq_md_forget (n : Nat) (hn : 4294967297 < n) (σ : wt_St) (r0 : wt_RI σ) : wt_T (wp_md_forget n σ) (fun q => wt_fr (fun i k => (i = 108 ∧ k = 0) ∨ (i = 108 ∧ k = 40)) (fun i => False) σ q.2 ∧ wt_RI q.2) := by
  unfold wp_md_forget
  obtain ⟨σ1, eσ1⟩ : ∃ z : wt_St, z = wt_sf σ 108 0 (0 : Int32) := ⟨_, rfl⟩
  rw [← eσ1]
  have fσ1 := wt_fr_sf eσ1
  have vσ1 := wt_ceq (wt_v_sf eσ1)
  have k2 : (0 : Int32).toInt = 0 := by decide
  have rσ1 := wt_RI_fno r0 eσ1 (Or.inr (by decide))
  obtain ⟨σ3, eσ3⟩ : ∃ z : wt_St, z = wt_sf σ1 108 40 (0 : Int32) := ⟨_, rfl⟩
  rw [← eσ3]
  have fσ3 := wt_fr_sf eσ3
  have vσ3 := wt_ceq (wt_v_sf eσ3)
  have rσ3 := wt_RI_fin rσ1 eσ3 8 rfl rfl (show 0 ≤ ((0 : Int32)).toInt by omega) (show ((0 : Int32)).toInt ≤ 10 by omega)
  refine wt_T_some ?_
  exact ⟨(wt_fr.tr (wt_fr.tr wt_fr.rf fσ1 (fun i k h => by (try dsimp only at h); exact Or.inl (by omega)) (fun i h => h.elim)) fσ3 (fun i k h => by (try dsimp only at h); exact Or.inr ((by omega))) (fun i h => h.elim)), rσ3⟩
set_option maxRecDepth 100000 in
set_option maxHeartbeats 4000000 in
theorem wq_md_worthOf (n : Nat) (hn : 4294967297 < n) (x1 : Int32) (σ : wt_St) (r0 : wt_RI σ) : wt_T (wp_md_worthOf n x1 σ) (fun q => q.2 = σ) := by
  have bb1 := wt_bd x1
  unfold wp_md_worthOf
  have k7 : (0 : Int32).toInt = 0 := by decide
  refine wt_T_it (fun s : Int32 × Int32 × wt_St => s.2.2 = σ ∧ 0 ≤ (s.2.1).toInt) (fun s : Int32 × Int32 × wt_St => ((wt_gf s.2.2 108 40).toInt - s.2.1.toInt + 0).toNat) (fun KK2 z3 I4 hKK2 => ?_) _ _ ?_ ?_
  · skip
    obtain ⟨l5, l6⟩ := I4
    unfold wp_md_worthOf_B4
    rw [l5]
    have bb8 := wt_bd (wt_gf σ 108 40)
    have g9 : 0 ≤ (wt_gf σ 108 40).toInt ∧ (wt_gf σ 108 40).toInt ≤ 10 := wt_R_gf r0 8 rfl
    have bb10 := wt_bd z3.2.1
    refine wt_T_if (fun h11 => ?_) (fun h11 => ?_)
    · skip
      have c12 := wt_cle h11
      refine wt_T_some ?_
      exact rfl
    · skip
      have c13 := wt_ncle h11
      have k14 : (31 : Int32).toInt = 31 := by decide
      have bb15 := wt_bd (z3.2.1 &&& 31)
      have bb16 := wt_bd (x1 >>> (z3.2.1 &&& 31))
      have k17 : (1 : Int32).toInt = 1 := by decide
      have bb18 := wt_bd ((x1 >>> (z3.2.1 &&& 31)) &&& (1 : Int32))
      refine wt_T_if (fun h19 => ?_) (fun h19 => ?_)
      · skip
        have c20 := wt_ceq h19
        refine wt_T_gd (wt_ix (by omega) (by omega)) ?_
        have k21 : (3 : Int32).toInt = 3 := by decide
        refine wt_T_gd (wt_ix (by omega) (by omega)) ?_
        unfold wp_md_worthOf_B34
        have bb22 := wt_bd z3.1
        have bb23 := wt_tn z3.2.1
        have bb24 := wt_tn (3 : Int32)
        have bb25 := wt_bd (wt_ga σ (264 + (Int32.toNatClampNeg z3.2.1)) (Int32.toNatClampNeg (3 : Int32)))
        obtain ⟨j26, j26a, j26b⟩ := wt_addI z3.1 (wt_ga σ (264 + (Int32.toNatClampNeg z3.2.1)) (Int32.toNatClampNeg (3 : Int32)))
        refine hKK2 _ ⟨rfl, (wt_nn (B := wt_gf z3.2.2 108 40) (by omega) (by first | (rw [l5]; omega) | (rw [l5]; done) | omega))⟩ ?_
        show ((wt_gf σ 108 40).toInt - (z3.2.1 + (1 : Int32)).toInt + 0).toNat < ((wt_gf z3.2.2 108 40).toInt - z3.2.1.toInt + 0).toNat
        exact wt_mu (by first | (rw [l5]; omega) | (rw [l5]; done) | omega) (by first | (rw [l5]; omega) | (rw [l5]; done) | omega)
      · skip
        have c27 := wt_nceq h19
        unfold wp_md_worthOf_B34
        have bb28 := wt_bd z3.1
        obtain ⟨j29, j29a, j29b⟩ := wt_addI z3.1 (0 : Int32)
        refine hKK2 _ ⟨rfl, (wt_nn (B := wt_gf z3.2.2 108 40) (by omega) (by first | (rw [l5]; omega) | (rw [l5]; done) | omega))⟩ ?_
        show ((wt_gf σ 108 40).toInt - (z3.2.1 + (1 : Int32)).toInt + 0).toNat < ((wt_gf z3.2.2 108 40).toInt - z3.2.1.toInt + 0).toNat
        exact wt_mu (by first | (rw [l5]; omega) | (rw [l5]; done) | omega) (by first | (rw [l5]; omega) | (rw [l5]; done) | omega)
  · skip
    have bb30 := wt_bd (wt_gf σ 108 40)
    have g31 : 0 ≤ (wt_gf σ 108 40).toInt ∧ (wt_gf σ 108 40).toInt ≤ 10 := wt_R_gf r0 8 rfl
    exact ⟨rfl, (show 0 ≤ ((0 : Int32)).toInt by omega)⟩
  · skip
    have bb32 := wt_bd (wt_gf σ 108 40)
    have g33 : 0 ≤ (wt_gf σ 108 40).toInt ∧ (wt_gf σ 108 40).toInt ≤ 10 := wt_R_gf r0 8 rfl
    show ((wt_gf σ 108 40).toInt - (0 : Int32).toInt + 0).toNat < n
    omega
set_option maxRecDepth 100000 in
set_option maxHeartbeats 4000000 in
theorem wq_md_habit (n : Nat) (hn : 4294967297 < n) (x1 : Int32) (σ : wt_St) (r0 : wt_RI σ) : wt_T (wp_md_habit n x1 σ) (fun q => wt_fr (fun i k => (i = 108 ∧ k = 0) ∨ (i = 108 ∧ k = 26)) (fun i => False) σ q.2 ∧ wt_RI q.2) := by
  have bb1 := wt_bd x1
  unfold wp_md_habit
  obtain ⟨σ2, eσ2⟩ : ∃ z : wt_St, z = wt_sf σ 108 0 (0 : Int32) := ⟨_, rfl⟩
  rw [← eσ2]
  have fσ2 := wt_fr_sf eσ2
  have vσ2 := wt_ceq (wt_v_sf eσ2)
  have k3 : (0 : Int32).toInt = 0 := by decide
  have rσ2 := wt_RI_fno r0 eσ2 (Or.inr (by decide))
  have k4 : (1 : Int32).toInt = 1 := by decide
  refine wt_T_bi (wq_md_in n hn x1 (0 : Int32) (1 : Int32) σ2 rσ2) (fun r5 h6 => ?_)
  obtain ⟨e7, pp8⟩ := h6
  have bb9 := wt_bd r5.1
  rw [e7]
  refine wt_T_if (fun h10 => ?_) (fun h10 => ?_)
  · skip
    have c11 := wt_ceq h10
    unfold wp_md_habit_B20
    refine wt_T_bi (wq_md_bad n hn (1 : Int32) (1 : Int32) σ2 rσ2 (by omega)) (fun r12 h13 => ?_)
    obtain ⟨f14, ri15, pp16⟩ := h13
    have bb17 := wt_bd r12.1
    have bb18 := wt_bd (wt_gf r12.2 108 0)
    have bb19 := wt_bd (wt_gf σ2 108 0)
    refine wt_T_if (fun h20 => ?_) (fun h20 => ?_)
    · skip
      have c21 := wt_ceq h20
      obtain ⟨σ22, eσ22⟩ : ∃ z : wt_St, z = wt_sf r12.2 108 26 x1 := ⟨_, rfl⟩
      rw [← eσ22]
      have fσ22 := wt_fr_sf eσ22
      have vσ22 := wt_ceq (wt_v_sf eσ22)
      have rσ22 := wt_RI_fno ri15 eσ22 (Or.inr (by decide))
      refine wt_T_some ?_
      exact ⟨(wt_fr.tr (wt_fr.tr (wt_fr.tr wt_fr.rf fσ2 (fun i k h => by (try dsimp only at h); exact Or.inl (by omega)) (fun i h => h.elim)) f14 (fun i k h => by (try dsimp only at h); exact Or.inl (by omega)) (fun i h => h.elim)) fσ22 (fun i k h => by (try dsimp only at h); exact Or.inr ((by omega))) (fun i h => h.elim)), rσ22⟩
    · skip
      have c23 := wt_nceq h20
      refine wt_T_some ?_
      exact ⟨(wt_fr.tr (wt_fr.tr wt_fr.rf fσ2 (fun i k h => by (try dsimp only at h); exact Or.inl (by omega)) (fun i h => h.elim)) f14 (fun i k h => by (try dsimp only at h); exact Or.inl (by omega)) (fun i h => h.elim)), ri15⟩
  · skip
    have c24 := wt_nceq h10
    unfold wp_md_habit_B20
    refine wt_T_bi (wq_md_bad n hn (0 : Int32) (1 : Int32) σ2 rσ2 (by omega)) (fun r25 h26 => ?_)
    obtain ⟨f27, ri28, pp29⟩ := h26
    have bb30 := wt_bd r25.1
    have bb31 := wt_bd (wt_gf r25.2 108 0)
    have bb32 := wt_bd (wt_gf σ2 108 0)
    refine wt_T_if (fun h33 => ?_) (fun h33 => ?_)
    · skip
      have c34 := wt_ceq h33
      obtain ⟨σ35, eσ35⟩ : ∃ z : wt_St, z = wt_sf r25.2 108 26 x1 := ⟨_, rfl⟩
      rw [← eσ35]
      have fσ35 := wt_fr_sf eσ35
      have vσ35 := wt_ceq (wt_v_sf eσ35)
      have rσ35 := wt_RI_fno ri28 eσ35 (Or.inr (by decide))
      refine wt_T_some ?_
      exact ⟨(wt_fr.tr (wt_fr.tr (wt_fr.tr wt_fr.rf fσ2 (fun i k h => by (try dsimp only at h); exact Or.inl (by omega)) (fun i h => h.elim)) f27 (fun i k h => by (try dsimp only at h); exact Or.inl (by omega)) (fun i h => h.elim)) fσ35 (fun i k h => by (try dsimp only at h); exact Or.inr ((by omega))) (fun i h => h.elim)), rσ35⟩
    · skip
      have c36 := wt_nceq h33
      refine wt_T_some ?_
      exact ⟨(wt_fr.tr (wt_fr.tr wt_fr.rf fσ2 (fun i k h => by (try dsimp only at h); exact Or.inl (by omega)) (fun i h => h.elim)) f27 (fun i k h => by (try dsimp only at h); exact Or.inl (by omega)) (fun i h => h.elim)), ri28⟩
