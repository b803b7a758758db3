set_option maxRecDepth 100000 in
set_option maxHeartbeats 4000000 in
theorem wq_md_goodForP (n : Nat) (hn : 4294967297 < n) (x1 : Int32) (x2 : Int32) (σ : wt_St) (r0 : wt_RI σ) (p0 : 0 ≤ x1.toInt) (p1 : x1.toInt ≤ 25) : wt_T (wp_md_goodFor n x1 x2 σ) (fun q => q.2 = σ ∧ q.1.toInt = wt_go σ x2.toInt (Int32.toNatClampNeg x1)) := by
  unfold wp_md_goodFor
  have k0 : (0 : Int32).toInt = 0 := by decide
  have k1 : (1 : Int32).toInt = 1 := by decide
  have hx := wt_tnI p0
  have gm : 0 ≤ (wt_ga σ 111 (Int32.toNatClampNeg x1)).toInt ∧ (wt_ga σ 111 (Int32.toNatClampNeg x1)).toInt ≤ 13 := wt_Ra1 r0 111 (by decide) (by decide) _
  refine wt_T_it (fun s : Int32 × Int32 × wt_St => s.2.2 = σ ∧ 0 ≤ s.2.1.toInt ∧ s.2.1.toInt ≤ (wt_ga σ 111 (Int32.toNatClampNeg x1)).toInt ∧ s.1.toInt = wt_sum (fun j => wt_gf1 σ x2.toInt (13 * Int32.toNatClampNeg x1 + j)) (Int32.toNatClampNeg s.2.1)) (fun s => ((wt_ga σ 111 (Int32.toNatClampNeg x1)).toInt - s.2.1.toInt).toNat) (fun K z hI hK => ?_) n _ ?_ ?_
  · obtain ⟨e, l1, l2, l3⟩ := hI
    unfold wp_md_goodFor_B5
    rw [e]
    refine wt_T_gd (wt_ix (by first | with_reducible assumption | omega) (by first | with_reducible assumption | omega)) ?_
    refine wt_T_if (fun h => ?_) (fun h => ?_)
    · have c := wt_cle h
      have e2 : z.2.1 = wt_ga σ 111 (Int32.toNatClampNeg x1) := wt_eqI (by first | with_reducible assumption | omega)
      refine wt_T_some ⟨rfl, ?_⟩
      unfold wt_go
      rw [← e2]
      exact l3
    · have c := wt_ncle h
      have et := wt_tnI l1
      have hs := wt_sum_bd (f := fun j => wt_gf1 σ x2.toInt (13 * Int32.toNatClampNeg x1 + j)) (c := 1) (Int32.toNatClampNeg z.2.1) (fun k _ => wt_gf1_bd _ _ _)
      have ei := wt_i1 (c := z.2.1) (by first | with_reducible assumption | omega)
      have step : ∀ y : Int32, y.toInt = wt_gf1 σ x2.toInt (13 * Int32.toNatClampNeg x1 + Int32.toNatClampNeg z.2.1) → wt_T (K (z.1 + y, z.2.1 + (1 : Int32), σ)) (fun q => q.2 = σ ∧ q.1.toInt = wt_go σ x2.toInt (Int32.toNatClampNeg x1)) := by
        intro y hy
        have hg := wt_gf1_bd σ x2.toInt (13 * Int32.toNatClampNeg x1 + Int32.toNatClampNeg z.2.1)
        have ea : (z.1 + y).toInt = z.1.toInt + y.toInt := wt_addE (by first | with_reducible assumption | omega) (by first | with_reducible assumption | omega)
        refine hK _ ⟨rfl, (show 0 ≤ (z.2.1 + (1 : Int32)).toInt by omega), (show (z.2.1 + (1 : Int32)).toInt ≤ (wt_ga σ 111 (Int32.toNatClampNeg x1)).toInt by omega), ?_⟩ ?_
        · show (z.1 + y).toInt = wt_sum (fun j => wt_gf1 σ x2.toInt (13 * Int32.toNatClampNeg x1 + j)) (Int32.toNatClampNeg (z.2.1 + (1 : Int32)))
          rw [wt_tn_i1 l1 (by first | with_reducible assumption | omega), ea, l3, hy]
          rfl
        · show ((wt_ga σ 111 (Int32.toNatClampNeg x1)).toInt - (z.2.1 + (1 : Int32)).toInt).toNat < ((wt_ga σ 111 (Int32.toNatClampNeg x1)).toInt - z.2.1.toInt).toNat
          omega
      refine wt_T_bi (wq_md_cell n hn x1 z.2.1 σ r0 p0 p1 l1 (by first | with_reducible assumption | omega)) (fun q3 h3 => ?_)
      obtain ⟨e3, v3⟩ := h3
      rw [e3]
      have ix : Int32.toNatClampNeg q3.1 = 13 * Int32.toNatClampNeg x1 + Int32.toNatClampNeg z.2.1 := wt_tnN (by first | with_reducible assumption | omega)
      refine wt_T_gd (wt_ix (by first | with_reducible assumption | omega) (by first | with_reducible assumption | omega)) ?_
      refine wt_T_if (fun h4 => ?_) (fun h4 => ?_)
      · have c4 := wt_ceq h4
        rw [wt_lm1, ix] at c4
        refine wt_T_bi (wq_md_cell n hn x1 z.2.1 σ r0 p0 p1 l1 (by first | with_reducible assumption | omega)) (fun q6 h6 => ?_)
        obtain ⟨e6, v6⟩ := h6
        rw [e6]
        have ix6 : Int32.toNatClampNeg q6.1 = 13 * Int32.toNatClampNeg x1 + Int32.toNatClampNeg z.2.1 := wt_tnN (by first | with_reducible assumption | omega)
        refine wt_T_gd (wt_ix (by first | with_reducible assumption | omega) (by first | with_reducible assumption | omega)) ?_
        refine wt_T_if (fun h5 => ?_) (fun h5 => ?_)
        · have c5 := wt_clt h5
          rw [ix6] at c5
          unfold wp_md_goodFor_B51 wp_md_goodFor_B52
          exact step _ (by unfold wt_gf1; rw [if_neg (fun w => by omega)]; exact k0)
        · have c5 := wt_ncl h5
          rw [ix6] at c5
          unfold wp_md_goodFor_B52
          exact step _ (by unfold wt_gf1; rw [if_pos ⟨c4, c5⟩]; exact k1)
      · have c4 := wt_nceq h4
        rw [wt_lm1, ix] at c4
        unfold wp_md_goodFor_B51 wp_md_goodFor_B52
        exact step _ (by unfold wt_gf1; rw [if_neg (fun w => c4 w.1)]; exact k0)
  · refine ⟨rfl, (show 0 ≤ (0 : Int32).toInt by omega), (show (0 : Int32).toInt ≤ (wt_ga σ 111 (Int32.toNatClampNeg x1)).toInt by omega), ?_⟩
    show (0 : Int32).toInt = wt_sum (fun j => wt_gf1 σ x2.toInt (13 * Int32.toNatClampNeg x1 + j)) (Int32.toNatClampNeg (0 : Int32))
    rw [wt_tn0]
    exact k0
  · show ((wt_ga σ 111 (Int32.toNatClampNeg x1)).toInt - (0 : Int32).toInt).toNat < n
    omega
set_option maxRecDepth 100000 in
set_option maxHeartbeats 4000000 in
theorem wq_md_lackingP (n : Nat) (hn : 4294967297 < n) (x1 : Int32) (σ : wt_St) (r0 : wt_RI σ) : wt_T (wp_md_lacking n x1 σ) (fun q => q.2 = σ ∧ ((q.1.toInt = -1 ∧ ∀ l : Nat, l < 26 → (wt_ga σ 287 l).toInt ≤ wt_go σ x1.toInt l) ∨ (0 ≤ q.1.toInt ∧ q.1.toInt ≤ 25 ∧ wt_go σ x1.toInt (Int32.toNatClampNeg q.1) < (wt_ga σ 287 (Int32.toNatClampNeg q.1)).toInt))) := by
  unfold wp_md_lacking
  have k0 : (0 : Int32).toInt = 0 := by decide
  have k26 : (26 : Int32).toInt = 26 := by decide
  refine wt_T_it (fun s : Int32 × wt_St => s.2 = σ ∧ 0 ≤ s.1.toInt ∧ s.1.toInt ≤ 26 ∧ ∀ l : Nat, (l : Int) < s.1.toInt → (wt_ga σ 287 l).toInt ≤ wt_go σ x1.toInt l) (fun s => (26 - s.1.toInt).toNat) (fun K z hI hK => ?_) n _ ?_ ?_
  · obtain ⟨e, l1, l2, l3⟩ := hI
    unfold wp_md_lacking_B2
    rw [e]
    refine wt_T_if (fun h => ?_) (fun h => ?_)
    · have c := wt_cle h
      exact wt_T_some ⟨rfl, Or.inl ⟨wt_lm1, fun l hl => l3 l (by first | with_reducible assumption | omega)⟩⟩
    · have c := wt_ncle h
      have et := wt_tnI l1
      refine wt_T_gd (wt_ix (by first | with_reducible assumption | omega) (by first | with_reducible assumption | omega)) ?_
      refine wt_T_bi (wq_md_goodForP n hn z.1 x1 σ r0 l1 (by first | with_reducible assumption | omega)) (fun q3 h3 => ?_)
      obtain ⟨e3, v3⟩ := h3
      rw [e3]
      refine wt_T_if (fun h4 => ?_) (fun h4 => ?_)
      · have c4 := wt_cle h4
        have ei := wt_i1 (c := z.1) (by first | with_reducible assumption | omega)
        refine hK _ ⟨rfl, (show 0 ≤ (z.1 + (1 : Int32)).toInt by omega), (show (z.1 + (1 : Int32)).toInt ≤ 26 by omega), fun l hl => ?_⟩ (show (26 - (z.1 + (1 : Int32)).toInt).toNat < (26 - z.1.toInt).toNat by omega)
        have hl' : (l : Int) < (z.1 + (1 : Int32)).toInt := hl
        by_cases hc : l = Int32.toNatClampNeg z.1
        · rw [hc]
          omega
        · exact l3 l (by first | with_reducible assumption | omega)
      · have c4 := wt_ncle h4
        exact wt_T_some ⟨rfl, Or.inr ⟨l1, (show z.1.toInt ≤ 25 by omega), (show wt_go σ x1.toInt (Int32.toNatClampNeg z.1) < (wt_ga σ 287 (Int32.toNatClampNeg z.1)).toInt by omega)⟩⟩
  · exact ⟨rfl, (show 0 ≤ (0 : Int32).toInt by omega), (show (0 : Int32).toInt ≤ 26 by omega), fun l hl => by
      have hl' : (l : Int) < (0 : Int32).toInt := hl
      omega⟩
  · show (26 - (0 : Int32).toInt).toNat < n
    omega
set_option maxRecDepth 100000 in
set_option maxHeartbeats 4000000 in
theorem wq_md_nextPieceP (n : Nat) (hn : 4294967297 < n) (x1 : Int32) (x2 : Int32) (σ : wt_St) (r0 : wt_RI σ) (p0 : 0 ≤ x1.toInt) (p1 : x1.toInt ≤ 25) : wt_T (wp_md_nextPiece n x1 x2 σ) (fun q => q.2 = σ ∧ ((q.1.toInt = -1 ∧ wt_go σ x2.toInt (Int32.toNatClampNeg x1) = 0) ∨ ∃ j : Nat, j < 13 ∧ q.1.toInt = 13 * x1.toInt + j ∧ (wt_ga σ 124 (13 * Int32.toNatClampNeg x1 + j)).toInt = -1 ∧ x2.toInt ≤ (wt_ga σ 121 (13 * Int32.toNatClampNeg x1 + j)).toInt)) := by
  unfold wp_md_nextPiece
  have k0 : (0 : Int32).toInt = 0 := by decide
  have hx := wt_tnI p0
  have gm : 0 ≤ (wt_ga σ 111 (Int32.toNatClampNeg x1)).toInt ∧ (wt_ga σ 111 (Int32.toNatClampNeg x1)).toInt ≤ 13 := wt_Ra1 r0 111 (by decide) (by decide) _
  refine wt_T_it (fun s : Int32 × Int32 × wt_St => s.2.2 = σ ∧ 0 ≤ s.2.1.toInt ∧ s.2.1.toInt ≤ (wt_ga σ 111 (Int32.toNatClampNeg x1)).toInt ∧ ((s.1.toInt = -1 ∧ wt_sum (fun j => wt_gf1 σ x2.toInt (13 * Int32.toNatClampNeg x1 + j)) (Int32.toNatClampNeg s.2.1) = 0) ∨ ∃ j : Nat, j < 13 ∧ s.1.toInt = 13 * x1.toInt + j ∧ (wt_ga σ 124 (13 * Int32.toNatClampNeg x1 + j)).toInt = -1 ∧ x2.toInt ≤ (wt_ga σ 121 (13 * Int32.toNatClampNeg x1 + j)).toInt)) (fun s => ((wt_ga σ 111 (Int32.toNatClampNeg x1)).toInt - s.2.1.toInt).toNat) (fun K z hI hK => ?_) n _ ?_ ?_
  · obtain ⟨e, l1, l2, l3⟩ := hI
    unfold wp_md_nextPiece_B5
    rw [e]
    refine wt_T_gd (wt_ix (by first | with_reducible assumption | omega) (by first | with_reducible assumption | omega)) ?_
    refine wt_T_if (fun h => ?_) (fun h => ?_)
    · have c := wt_cle h
      have e2 : z.2.1 = wt_ga σ 111 (Int32.toNatClampNeg x1) := wt_eqI (by first | with_reducible assumption | omega)
      refine wt_T_some ⟨rfl, ?_⟩
      unfold wt_go
      rw [← e2]
      exact l3
    · have c := wt_ncle h
      have et := wt_tnI l1
      have ei := wt_i1 (c := z.2.1) (by first | with_reducible assumption | omega)
      have hz : z.1.toInt = -1 ∨ (0 ≤ z.1.toInt ∧ z.1.toInt ≤ 337) := by
        rcases l3 with l3 | ⟨j, j1, j2, -⟩
        · exact Or.inl l3.1
        · exact Or.inr (by first | with_reducible assumption | omega)
      have step : ∀ y : Int32, ((y.toInt = -1 ∧ wt_sum (fun j => wt_gf1 σ x2.toInt (13 * Int32.toNatClampNeg x1 + j)) (Int32.toNatClampNeg z.2.1 + 1) = 0) ∨ ∃ j : Nat, j < 13 ∧ y.toInt = 13 * x1.toInt + j ∧ (wt_ga σ 124 (13 * Int32.toNatClampNeg x1 + j)).toInt = -1 ∧ x2.toInt ≤ (wt_ga σ 121 (13 * Int32.toNatClampNeg x1 + j)).toInt) → wt_T (K (y, z.2.1 + (1 : Int32), σ)) (fun q => q.2 = σ ∧ ((q.1.toInt = -1 ∧ wt_go σ x2.toInt (Int32.toNatClampNeg x1) = 0) ∨ ∃ j : Nat, j < 13 ∧ q.1.toInt = 13 * x1.toInt + j ∧ (wt_ga σ 124 (13 * Int32.toNatClampNeg x1 + j)).toInt = -1 ∧ x2.toInt ≤ (wt_ga σ 121 (13 * Int32.toNatClampNeg x1 + j)).toInt)) := by
        intro y hy
        refine hK _ ⟨rfl, (show 0 ≤ (z.2.1 + (1 : Int32)).toInt by omega), (show (z.2.1 + (1 : Int32)).toInt ≤ (wt_ga σ 111 (Int32.toNatClampNeg x1)).toInt by omega), ?_⟩ ?_
        · show (y.toInt = -1 ∧ wt_sum (fun j => wt_gf1 σ x2.toInt (13 * Int32.toNatClampNeg x1 + j)) (Int32.toNatClampNeg (z.2.1 + (1 : Int32))) = 0) ∨ _
          rw [wt_tn_i1 l1 (by first | with_reducible assumption | omega)]
          exact hy
        · show ((wt_ga σ 111 (Int32.toNatClampNeg x1)).toInt - (z.2.1 + (1 : Int32)).toInt).toNat < ((wt_ga σ 111 (Int32.toNatClampNeg x1)).toInt - z.2.1.toInt).toNat
          omega
      refine wt_T_bi (wq_md_cell n hn x1 z.2.1 σ r0 p0 p1 l1 (by first | with_reducible assumption | omega)) (fun q3 h3 => ?_)
      obtain ⟨e3, v3⟩ := h3
      rw [e3]
      have ix : Int32.toNatClampNeg q3.1 = 13 * Int32.toNatClampNeg x1 + Int32.toNatClampNeg z.2.1 := wt_tnN (by first | with_reducible assumption | omega)
      have keep : wt_gf1 σ x2.toInt (13 * Int32.toNatClampNeg x1 + Int32.toNatClampNeg z.2.1) = 0 ∨ z.1.toInt ≠ -1 → (z.1.toInt = -1 ∧ wt_sum (fun j => wt_gf1 σ x2.toInt (13 * Int32.toNatClampNeg x1 + j)) (Int32.toNatClampNeg z.2.1 + 1) = 0) ∨ ∃ j : Nat, j < 13 ∧ z.1.toInt = 13 * x1.toInt + j ∧ (wt_ga σ 124 (13 * Int32.toNatClampNeg x1 + j)).toInt = -1 ∧ x2.toInt ≤ (wt_ga σ 121 (13 * Int32.toNatClampNeg x1 + j)).toInt := by
        intro hk
        rcases l3 with l3 | l3
        · refine Or.inl ⟨l3.1, ?_⟩
          show wt_sum (fun j => wt_gf1 σ x2.toInt (13 * Int32.toNatClampNeg x1 + j)) (Int32.toNatClampNeg z.2.1) + wt_gf1 σ x2.toInt (13 * Int32.toNatClampNeg x1 + Int32.toNatClampNeg z.2.1) = 0
          rcases hk with hk | hk
          · rw [l3.2, hk]; rfl
          · exact absurd l3.1 hk
        · exact Or.inr l3
      refine wt_T_gd (wt_ix (by first | with_reducible assumption | omega) (by first | with_reducible assumption | omega)) ?_
      refine wt_T_if (fun h4 => ?_) (fun h4 => ?_)
      · have c4 := wt_ceq h4
        rw [wt_lm1, ix] at c4
        refine wt_T_gd (wt_ix (by first | with_reducible assumption | omega) (by first | with_reducible assumption | omega)) ?_
        refine wt_T_if (fun h5 => ?_) (fun h5 => ?_)
        · have c5 := wt_cle h5
          rw [ix] at c5
          have new : (q3.1.toInt = -1 ∧ wt_sum (fun j => wt_gf1 σ x2.toInt (13 * Int32.toNatClampNeg x1 + j)) (Int32.toNatClampNeg z.2.1 + 1) = 0) ∨ ∃ j : Nat, j < 13 ∧ q3.1.toInt = 13 * x1.toInt + j ∧ (wt_ga σ 124 (13 * Int32.toNatClampNeg x1 + j)).toInt = -1 ∧ x2.toInt ≤ (wt_ga σ 121 (13 * Int32.toNatClampNeg x1 + j)).toInt := Or.inr ⟨Int32.toNatClampNeg z.2.1, by omega, by omega, c4, c5⟩
          refine wt_T_if (fun h6 => ?_) (fun h6 => ?_)
          · unfold wp_md_nextPiece_B96 wp_md_nextPiece_B99
            exact step _ new
          · have c6 := wt_nceq h6
            rw [wt_lm1] at c6
            have kp := keep (Or.inr c6)
            refine wt_T_if (fun h7 => ?_) (fun h7 => ?_)
            · refine wt_T_gd (wt_ix (by first | with_reducible assumption | omega) (by first | with_reducible assumption | omega)) ?_
              refine wt_T_gd (wt_ix (by first | with_reducible assumption | omega) (by first | with_reducible assumption | omega)) ?_
              refine wt_T_if (fun h8 => ?_) (fun h8 => ?_)
              · unfold wp_md_nextPiece_B99
                exact step _ kp
              · unfold wp_md_nextPiece_B96 wp_md_nextPiece_B99
                exact step _ new
            · refine wt_T_gd (wt_ix (by first | with_reducible assumption | omega) (by first | with_reducible assumption | omega)) ?_
              refine wt_T_gd (wt_ix (by first | with_reducible assumption | omega) (by first | with_reducible assumption | omega)) ?_
              refine wt_T_if (fun h8 => ?_) (fun h8 => ?_)
              · unfold wp_md_nextPiece_B99
                exact step _ kp
              · unfold wp_md_nextPiece_B96 wp_md_nextPiece_B99
                exact step _ new
        · have c5 := wt_ncle h5
          rw [ix] at c5
          unfold wp_md_nextPiece_B99
          exact step _ (keep (Or.inl (by unfold wt_gf1; rw [if_neg (fun w => by omega)])))
      · have c4 := wt_nceq h4
        rw [wt_lm1, ix] at c4
        unfold wp_md_nextPiece_B99
        exact step _ (keep (Or.inl (by unfold wt_gf1; rw [if_neg (fun w => c4 w.1)])))
  · refine ⟨rfl, (show 0 ≤ (0 : Int32).toInt by omega), (show (0 : Int32).toInt ≤ (wt_ga σ 111 (Int32.toNatClampNeg x1)).toInt by omega), Or.inl ⟨wt_lm1, ?_⟩⟩
    show wt_sum (fun j => wt_gf1 σ x2.toInt (13 * Int32.toNatClampNeg x1 + j)) (Int32.toNatClampNeg (0 : Int32)) = 0
    rw [wt_tn0]
    rfl
  · show ((wt_ga σ 111 (Int32.toNatClampNeg x1)).toInt - (0 : Int32).toInt).toNat < n
    omega
set_option maxRecDepth 100000 in
set_option maxHeartbeats 4000000 in
theorem wq_md_takes (n : Nat) (hn : 4294967297 < n) (x1 : Int32) (x2 : Int32) (σ : wt_St) (r0 : wt_RI σ) (p0 : 0 ≤ x2.toInt) (p1 : x2.toInt ≤ 4) (nb : wt_NB σ) : wt_T (wp_md_takes n x1 x2 σ) (fun q => wt_fr (fun i k => (i = 108 ∧ k = 54)) (fun i => i = 124 ∨ i = 288) σ q.2 ∧ wt_RI q.2 ∧ ((q.1.toInt = 0 ∧ ∃ l : Nat, l < 26 ∧ wt_go σ x1.toInt l < (wt_ga σ 287 l).toInt) ∨ (q.1.toInt = 1 ∧ (∀ l : Nat, l < 26 → wt_tk q.2 l = (wt_ga σ 287 l).toInt) ∧ wt_TD q.2 x1.toInt x2.toInt))) := by
  unfold wp_md_takes
  have k0 : (0 : Int32).toInt = 0 := by decide
  have k1 : (1 : Int32).toInt = 1 := by decide
  have k26 : (26 : Int32).toInt = 26 := by decide
  refine wt_T_bi (wq_md_lackingP n hn x1 σ r0) (fun q1 h1 => ?_)
  obtain ⟨e1, v1⟩ := h1
  rw [e1]
  refine wt_T_if (fun h => ?_) (fun h => ?_)
  · have c := wt_ceq h
    rw [wt_lm1] at c
    have hgo : ∀ l : Nat, l < 26 → (wt_ga σ 287 l).toInt ≤ wt_go σ x1.toInt l := by
      rcases v1 with v1 | v1
      · exact v1.2
      · omega
    obtain ⟨σ0, e0⟩ : ∃ z : wt_St, z = wt_sf σ 108 54 (0 : Int32) := ⟨_, rfl⟩
    rw [← e0]
    have f0 := wt_fr_sf e0
    have v0 := wt_ceq (wt_v_sf e0)
    have rr0 := wt_Rm10 r0 e0 (show 0 ≤ ((0 : Int32)).toInt by omega) (show ((0 : Int32)).toInt ≤ 108 by omega)
    refine wt_T_it (fun s : Int32 × wt_St => wt_fr (fun i k => (i = 108 ∧ k = 54)) (fun i => i = 124 ∨ i = 288) σ s.2 ∧ wt_RI s.2 ∧ 0 ≤ s.1.toInt ∧ s.1.toInt ≤ 26 ∧ (wt_gf s.2 108 54).toInt = wt_sum (fun l => (wt_ga σ 287 l).toInt) (Int32.toNatClampNeg s.1) ∧ wt_TD s.2 x1.toInt x2.toInt ∧ (∀ l : Nat, l < 26 → wt_tk s.2 l = if (l : Int) < s.1.toInt then (wt_ga σ 287 l).toInt else 0) ∧ ∀ l : Nat, l < 26 → s.1.toInt ≤ (l : Int) → (wt_ga σ 287 l).toInt ≤ wt_go s.2 x1.toInt l) (fun s => (26 - s.1.toInt).toNat) (fun K18 z hI hK18 => ?_) n _ ?_ ?_
    · obtain ⟨fz, rz, l1, l2, l3, dz, l4, l5⟩ := hI
      unfold wp_md_takes_B18
      refine wt_T_if (fun h2 => ?_) (fun h2 => ?_)
      · have c2 := wt_cle h2
        refine wt_T_some ⟨fz, rz, Or.inr ⟨k1, fun l hl => ?_, dz⟩⟩
        show wt_tk z.2 l = _
        rw [l4 l hl, if_pos (by first | with_reducible assumption | omega)]
      · have c2 := wt_ncle h2
        have et := wt_tnI l1
        have ei := wt_i1 (c := z.1) (by first | with_reducible assumption | omega)
        have hneed := nb.1 (Int32.toNatClampNeg z.1) (by first | with_reducible assumption | omega)
        refine wt_T_it (fun s : Int32 × wt_St => wt_fr (fun i k => (i = 108 ∧ k = 54)) (fun i => i = 124 ∨ i = 288) σ s.2 ∧ wt_RI s.2 ∧ 0 ≤ s.1.toInt ∧ s.1.toInt ≤ (wt_ga σ 287 (Int32.toNatClampNeg z.1)).toInt ∧ (wt_gf s.2 108 54).toInt = wt_sum (fun l => (wt_ga σ 287 l).toInt) (Int32.toNatClampNeg z.1) + s.1.toInt ∧ wt_TD s.2 x1.toInt x2.toInt ∧ (∀ l : Nat, l < 26 → wt_tk s.2 l = if (l : Int) < z.1.toInt then (wt_ga σ 287 l).toInt else if (l : Int) = z.1.toInt then s.1.toInt else 0) ∧ (∀ l : Nat, l < 26 → z.1.toInt < (l : Int) → (wt_ga σ 287 l).toInt ≤ wt_go s.2 x1.toInt l) ∧ (wt_ga σ 287 (Int32.toNatClampNeg z.1)).toInt - s.1.toInt ≤ wt_go s.2 x1.toInt (Int32.toNatClampNeg z.1)) (fun s => ((wt_ga σ 287 (Int32.toNatClampNeg z.1)).toInt - s.1.toInt).toNat) (fun K27 y hJ hK27 => ?_) n _ ?_ ?_
        · obtain ⟨fy, ry, m1, m2, m3, dy, m4, m5, m6⟩ := hJ
          unfold wp_md_takes_B27
          have t287 := fy.2 287 (by first | with_reducible assumption | omega) (Int32.toNatClampNeg z.1)
          refine wt_T_gd (wt_ix (by first | with_reducible assumption | omega) (by first | with_reducible assumption | omega)) ?_
          refine wt_T_if (fun h3 => ?_) (fun h3 => ?_)
          · have c3 := wt_cle h3
            rw [t287] at c3
            refine hK18 _ ⟨fy, ry, (show 0 ≤ (z.1 + (1 : Int32)).toInt by omega), (show (z.1 + (1 : Int32)).toInt ≤ 26 by omega), ?_, dy, fun l hl => ?_, fun l hl hl2 => ?_⟩ (show (26 - (z.1 + (1 : Int32)).toInt).toNat < (26 - z.1.toInt).toNat by omega)
            · show (wt_gf y.2 108 54).toInt = wt_sum (fun l => (wt_ga σ 287 l).toInt) (Int32.toNatClampNeg (z.1 + (1 : Int32)))
              rw [wt_tn_i1 l1 (by first | with_reducible assumption | omega), m3]
              show _ = wt_sum (fun l => (wt_ga σ 287 l).toInt) (Int32.toNatClampNeg z.1) + (wt_ga σ 287 (Int32.toNatClampNeg z.1)).toInt
              omega
            · show wt_tk y.2 l = if (l : Int) < (z.1 + (1 : Int32)).toInt then (wt_ga σ 287 l).toInt else 0
              rw [m4 l hl]
              by_cases ha : (l : Int) < z.1.toInt
              · rw [if_pos ha, if_pos (by first | with_reducible assumption | omega)]
              · rw [if_neg ha]
                by_cases hb : (l : Int) = z.1.toInt
                · rw [if_pos hb, if_pos (by first | with_reducible assumption | omega), show l = Int32.toNatClampNeg z.1 by omega]
                  omega
                · rw [if_neg hb, if_neg (by first | with_reducible assumption | omega)]
            · have hl3 : (z.1 + (1 : Int32)).toInt ≤ (l : Int) := hl2
              exact m5 l hl (by first | with_reducible assumption | omega)
          · have c3 := wt_ncle h3
            rw [t287] at c3
            have ej := wt_i1 (c := y.1) (by have := wt_bd (wt_ga σ 287 (Int32.toNatClampNeg z.1)); omega)
            refine wt_T_bi (wq_md_nextPieceP n hn z.1 x1 y.2 ry l1 (by first | with_reducible assumption | omega)) (fun q6 h6 => ?_)
            obtain ⟨e6, v6⟩ := h6
            rw [e6]
            obtain ⟨j, j1, j2, j3, j4⟩ : ∃ j : Nat, j < 13 ∧ q6.1.toInt = 13 * z.1.toInt + j ∧ (wt_ga y.2 124 (13 * Int32.toNatClampNeg z.1 + j)).toInt = -1 ∧ x1.toInt ≤ (wt_ga y.2 121 (13 * Int32.toNatClampNeg z.1 + j)).toInt := by
              rcases v6 with v6 | v6
              · omega
              · exact v6
            have ix : Int32.toNatClampNeg q6.1 = 13 * Int32.toNatClampNeg z.1 + j := wt_tnN (by first | with_reducible assumption | omega)
            refine wt_T_gd (wt_ix (by first | with_reducible assumption | omega) (by first | with_reducible assumption | omega)) ?_
            obtain ⟨σ1, ε1⟩ : ∃ w : wt_St, w = wt_sa y.2 124 (Int32.toNatClampNeg q6.1) x2 := ⟨_, rfl⟩
            rw [← ε1]
            have f1 := wt_fr_sa ε1
            have rr1 := wt_RI_no ry ε1 124 125 (by decide +kernel) (by decide) (by decide)
            have t54 : (wt_gf σ1 108 54).toInt = (wt_gf y.2 108 54).toInt := congrArg Int32.toInt (f1.1 108 54 (fun w => w))
            have hsum := wt_sum_pre (f := fun l => (wt_ga σ 287 l).toInt) (a := Int32.toNatClampNeg z.1 + 1) 26 (by first | with_reducible assumption | omega) nb.1
            have hsum1 : wt_sum (fun l => (wt_ga σ 287 l).toInt) (Int32.toNatClampNeg z.1 + 1) = wt_sum (fun l => (wt_ga σ 287 l).toInt) (Int32.toNatClampNeg z.1) + (wt_ga σ 287 (Int32.toNatClampNeg z.1)).toInt := rfl
            have hsum0 := wt_sum_pre (f := fun l => (wt_ga σ 287 l).toInt) (a := 0) (Int32.toNatClampNeg z.1) (by first | with_reducible assumption | omega) (fun k hk => nb.1 k (by first | with_reducible assumption | omega))
            have hsum00 : wt_sum (fun l => (wt_ga σ 287 l).toInt) 0 = 0 := rfl
            have nb2 := nb.2
            refine wt_T_gd (wt_ix (by first | with_reducible assumption | omega) (by first | with_reducible assumption | omega)) ?_
            obtain ⟨σ2, ε2⟩ : ∃ w : wt_St, w = wt_sa σ1 288 (Int32.toNatClampNeg (wt_gf σ1 108 54)) q6.1 := ⟨_, rfl⟩
            rw [← ε2]
            have f2 := wt_fr_sa ε2
            have rr2 := wt_Rn15 rr1 ε2 (by decide) (by decide) (show 0 ≤ q6.1.toInt by omega) (show q6.1.toInt ≤ 337 by omega)
            have t54b : (wt_gf σ2 108 54).toInt = (wt_gf σ1 108 54).toInt := congrArg Int32.toInt (f2.1 108 54 (fun w => w))
            have e54 := wt_i1 (c := wt_gf σ2 108 54) (by first | with_reducible assumption | omega)
            obtain ⟨σ3, ε3⟩ : ∃ w : wt_St, w = wt_sf σ2 108 54 ((wt_gf σ2 108 54) + (1 : Int32)) := ⟨_, rfl⟩
            rw [← ε3]
            have f3 := wt_fr_sf ε3
            have v3 := wt_ceq (wt_v_sf ε3)
            have rr3 := wt_Rm10 rr2 ε3 (show 0 ≤ ((wt_gf σ2 108 54) + (1 : Int32)).toInt by omega) (show ((wt_gf σ2 108 54) + (1 : Int32)).toInt ≤ 108 by omega)
            have n3 : Int32.toNatClampNeg (wt_gf σ3 108 54) = Int32.toNatClampNeg (wt_gf y.2 108 54) + 1 := wt_tnN (by have := wt_tnI (x := wt_gf y.2 108 54) (by first | with_reducible assumption | omega); omega)
            have n1 : Int32.toNatClampNeg (wt_gf σ1 108 54) = Int32.toNatClampNeg (wt_gf y.2 108 54) := wt_tnN (by have := wt_tnI (x := wt_gf y.2 108 54) (by first | with_reducible assumption | omega); omega)
            have a124 : ∀ i, i ≠ 13 * Int32.toNatClampNeg z.1 + j → wt_ga σ3 124 i = wt_ga y.2 124 i := fun i hi => by
              rw [f3.2 124 (fun w => w) i, f2.2 124 (by decide) i, wt_w_sa ε1 i (by rw [ix]; exact hi)]
            have a121 : ∀ i, wt_ga σ3 121 i = wt_ga y.2 121 i := fun i => by
              rw [f3.2 121 (fun w => w) i, f2.2 121 (by decide) i, f1.2 121 (by decide) i]
            have a111 : ∀ i, wt_ga σ3 111 i = wt_ga y.2 111 i := fun i => by
              rw [f3.2 111 (fun w => w) i, f2.2 111 (by decide) i, f1.2 111 (by decide) i]
            have a13 : ∀ l : Nat, (wt_ga y.2 111 l).toInt ≤ 13 := fun l => (wt_Ra1 ry 111 (by decide) (by decide) l).2
            have tk : ∀ l : Nat, wt_tk σ3 l = wt_tk y.2 l + if (l : Int) = z.1.toInt then 1 else 0 := fun l => by
              show wt_ct (fun k => (wt_ga σ3 288 k).toInt / 13) l (Int32.toNatClampNeg (wt_gf σ3 108 54)) = wt_ct (fun k => (wt_ga y.2 288 k).toInt / 13) l (Int32.toNatClampNeg (wt_gf y.2 108 54)) + _
              rw [n3]
              show wt_ct (fun k => (wt_ga σ3 288 k).toInt / 13) l (Int32.toNatClampNeg (wt_gf y.2 108 54)) + (if (wt_ga σ3 288 (Int32.toNatClampNeg (wt_gf y.2 108 54))).toInt / 13 = (l : Int) then 1 else 0) = _
              rw [wt_ct_congr (g := fun k => (wt_ga y.2 288 k).toInt / 13) _ (fun k hk => by
                show (wt_ga σ3 288 k).toInt / 13 = (wt_ga y.2 288 k).toInt / 13
                rw [f3.2 288 (fun w => w) k, wt_w_sa ε2 k (by rw [n1]; omega), f1.2 288 (by decide) k])]
              have ev : (wt_ga σ3 288 (Int32.toNatClampNeg (wt_gf y.2 108 54))).toInt = q6.1.toInt := by
                rw [f3.2 288 (fun w => w), ← n1, wt_v_sa ε2]
              rw [ev]
              by_cases hc : (l : Int) = z.1.toInt
              · rw [if_pos hc, if_pos (by first | with_reducible assumption | omega)]
              · rw [if_neg hc, if_neg (by first | with_reducible assumption | omega)]
            have s288 : ∀ k, k ≠ Int32.toNatClampNeg (wt_gf y.2 108 54) → wt_ga σ3 288 k = wt_ga y.2 288 k := fun k hk => by
              rw [f3.2 288 (fun w => w) k, wt_w_sa ε2 k (by rw [n1]; exact hk), f1.2 288 (by decide) k]
            have s288n : wt_ga σ3 288 (Int32.toNatClampNeg (wt_gf y.2 108 54)) = q6.1 := by
              rw [f3.2 288 (fun w => w), ← n1, wt_v_sa ε2]
            have s124n : wt_ga σ3 124 (13 * Int32.toNatClampNeg z.1 + j) = x2 := by
              rw [f3.2 124 (fun w => w), f2.2 124 (by decide), ← ix, wt_v_sa ε1]
            have ntm := wt_tnI (x := wt_gf y.2 108 54) (by first | with_reducible assumption | omega)
            have dn : wt_TD σ3 x1.toInt x2.toInt := by
              intro k hk
              by_cases hc : k = Int32.toNatClampNeg (wt_gf y.2 108 54)
              · rw [hc, s288n, ix, s124n, a121]
                refine ⟨rfl, j4, fun k' hk' hq => ?_⟩
                rw [s288 k' (by first | with_reducible assumption | omega)] at hq
                have := (dy k' (by first | with_reducible assumption | omega)).1
                rw [hq, ix] at this
                omega
              · rw [s288 k hc, a121]
                have dk := dy k (by first | with_reducible assumption | omega)
                refine ⟨?_, dk.2.1, fun k' hk' => ?_⟩
                · by_cases hd : Int32.toNatClampNeg (wt_ga y.2 288 k) = 13 * Int32.toNatClampNeg z.1 + j
                  · rw [hd, s124n]
                  · rw [a124 _ hd]
                    exact dk.1
                · rw [s288 k' (by first | with_reducible assumption | omega)]
                  exact dk.2.2 k' hk'
            refine hK27 _ ⟨wt_fr.tr (wt_fr.tr (wt_fr.tr fy f1 (fun i k h => h.elim) (fun i h => Or.inl h)) f2 (fun i k h => h.elim) (fun i h => Or.inr h)) f3 (fun i k h => h) (fun i h => h.elim), rr3, (show 0 ≤ (y.1 + (1 : Int32)).toInt by omega), (show (y.1 + (1 : Int32)).toInt ≤ (wt_ga σ 287 (Int32.toNatClampNeg z.1)).toInt by omega), (show (wt_gf σ3 108 54).toInt = wt_sum (fun l => (wt_ga σ 287 l).toInt) (Int32.toNatClampNeg z.1) + (y.1 + (1 : Int32)).toInt by omega), dn, fun l hl => ?_, fun l hl hl2 => ?_, ?_⟩ (show ((wt_ga σ 287 (Int32.toNatClampNeg z.1)).toInt - (y.1 + (1 : Int32)).toInt).toNat < ((wt_ga σ 287 (Int32.toNatClampNeg z.1)).toInt - y.1.toInt).toNat by omega)
            · show wt_tk σ3 l = if (l : Int) < z.1.toInt then (wt_ga σ 287 l).toInt else if (l : Int) = z.1.toInt then (y.1 + (1 : Int32)).toInt else 0
              rw [tk l, m4 l hl]
              by_cases ha : (l : Int) < z.1.toInt
              · rw [if_pos ha, if_pos ha, if_neg (by first | with_reducible assumption | omega)]
                omega
              · rw [if_neg ha, if_neg ha]
                by_cases hb : (l : Int) = z.1.toInt
                · rw [if_pos hb, if_pos hb, if_pos hb, ej]
                · rw [if_neg hb, if_neg hb, if_neg hb]
                  rfl
            · show (wt_ga σ 287 l).toInt ≤ wt_go σ3 x1.toInt l
              rw [wt_go_eq (a13 l) (a111 l) (fun i hi => ⟨a124 _ (by first | with_reducible assumption | omega), a121 _⟩)]
              exact m5 l hl hl2
            · show (wt_ga σ 287 (Int32.toNatClampNeg z.1)).toInt - (y.1 + (1 : Int32)).toInt ≤ wt_go σ3 x1.toInt (Int32.toNatClampNeg z.1)
              have := wt_go_off (σ := y.2) (σ' := σ3) (c := x1.toInt) (l := Int32.toNatClampNeg z.1) (j0 := j) (a13 _) (a111 _) (fun i hi hne => ⟨a124 _ (by first | with_reducible assumption | omega), a121 _⟩)
              omega
        · refine ⟨fz, rz, (show 0 ≤ (0 : Int32).toInt by omega), (show (0 : Int32).toInt ≤ (wt_ga σ 287 (Int32.toNatClampNeg z.1)).toInt by omega), (show (wt_gf z.2 108 54).toInt = wt_sum (fun l => (wt_ga σ 287 l).toInt) (Int32.toNatClampNeg z.1) + (0 : Int32).toInt by omega), dz, fun l hl => ?_, fun l hl hl2 => l5 l hl (by first | with_reducible assumption | omega), ?_⟩
          · show wt_tk z.2 l = if (l : Int) < z.1.toInt then (wt_ga σ 287 l).toInt else if (l : Int) = z.1.toInt then (0 : Int32).toInt else 0
            rw [l4 l hl, k0]
            by_cases ha : (l : Int) < z.1.toInt
            · rw [if_pos ha, if_pos ha]
            · rw [if_neg ha, if_neg ha]
              split <;> rfl
          · show (wt_ga σ 287 (Int32.toNatClampNeg z.1)).toInt - (0 : Int32).toInt ≤ wt_go z.2 x1.toInt (Int32.toNatClampNeg z.1)
            have := l5 (Int32.toNatClampNeg z.1) (by first | with_reducible assumption | omega) (by first | with_reducible assumption | omega)
            omega
        · show ((wt_ga σ 287 (Int32.toNatClampNeg z.1)).toInt - (0 : Int32).toInt).toNat < n
          have := wt_bd (wt_ga σ 287 (Int32.toNatClampNeg z.1))
          omega
    · refine ⟨wt_fr.tr wt_fr.rf f0 (fun i k h => h) (fun i h => h.elim), rr0, (show 0 ≤ (0 : Int32).toInt by omega), (show (0 : Int32).toInt ≤ 26 by omega), ?_, fun k hk => by rw [v0, k0] at hk; omega, fun l hl => ?_, fun l hl _ => ?_⟩
      · show (wt_gf σ0 108 54).toInt = wt_sum (fun l => (wt_ga σ 287 l).toInt) (Int32.toNatClampNeg (0 : Int32))
        rw [wt_tn0, v0]
        exact k0
      · show wt_tk σ0 l = if (l : Int) < (0 : Int32).toInt then (wt_ga σ 287 l).toInt else 0
        rw [if_neg (by first | with_reducible assumption | omega)]
        show wt_ct (fun k => (wt_ga σ0 288 k).toInt / 13) l (Int32.toNatClampNeg (wt_gf σ0 108 54)) = 0
        rw [wt_v_sf e0, wt_tn0]
        rfl
      · show (wt_ga σ 287 l).toInt ≤ wt_go σ0 x1.toInt l
        rw [wt_go_eq (wt_Ra1 r0 111 (by decide) (by decide) l).2 (f0.2 111 (fun w => w) l) (fun i _ => ⟨f0.2 124 (fun w => w) _, f0.2 121 (fun w => w) _⟩)]
        exact hgo l hl
    · show (26 - (0 : Int32).toInt).toNat < n
      omega
  · have c := wt_nceq h
    rw [wt_lm1] at c
    refine wt_T_some ⟨wt_fr.rf, r0, Or.inl ⟨k0, ?_⟩⟩
    rcases v1 with v1 | v1
    · exact absurd v1.1 c
    · exact ⟨Int32.toNatClampNeg q1.1, by have := wt_tnI v1.1; omega, v1.2.2⟩

set_option maxRecDepth 100000 in
set_option maxHeartbeats 4000000 in
theorem wq_md_isPrinted (n : Nat) (hn : 4294967297 < n) (x1 : Int32) (σ : wt_St) (r0 : wt_RI σ) (p0 : 0 ≤ x1.toInt) (p1 : x1.toInt < (wt_gf σ 108 40).toInt) : wt_T (wp_md_isPrinted n x1 σ) (fun q => wt_fr (fun i k => (i = 108 ∧ k = 54)) (fun i => i = 287 ∨ i = 124 ∨ i = 288 ∨ i = 121) σ q.2 ∧ wt_RI q.2) := by
  unfold wp_md_isPrinted
  have k0 : (0 : Int32).toInt = 0 := by decide
  have k1 : (1 : Int32).toInt = 1 := by decide
  have k4 : (4 : Int32).toInt = 4 := by decide
  have gw : 0 ≤ (wt_gf σ 108 40).toInt ∧ (wt_gf σ 108 40).toInt ≤ 10 := wt_Rf8 r0
  have hx := wt_tnI p0
  refine wt_T_gd (wt_ix (by first | with_reducible assumption | omega) (by first | with_reducible assumption | omega)) ?_
  refine wt_T_gd (wt_ix (by first | with_reducible assumption | omega) (by first | with_reducible assumption | omega)) ?_
  have g0 := wt_R_w0 r0 (264 + Int32.toNatClampNeg x1) (by first | with_reducible assumption | omega) (by first | with_reducible assumption | omega)
  refine wt_T_bi (wq_md_needsText n hn _ σ r0 g0.1 g0.2) (fun q hq => ?_)
  obtain ⟨fq, rq, nb, -⟩ := hq
  refine wt_T_gd (wt_ix (by first | with_reducible assumption | omega) (by first | with_reducible assumption | omega)) ?_
  refine wt_T_gd (wt_ix (by first | with_reducible assumption | omega) (by first | with_reducible assumption | omega)) ?_
  have g1 := wt_R_w1 rq (264 + Int32.toNatClampNeg x1) (by first | with_reducible assumption | omega) (by first | with_reducible assumption | omega)
  refine wt_T_bi (wq_md_takes n hn _ (4 : Int32) q rq (by first | with_reducible assumption | omega) (by first | with_reducible assumption | omega) nb) (fun q6 h6 => ?_)
  obtain ⟨f6, r6, v6⟩ := h6
  have fr6 : wt_fr (fun i k => (i = 108 ∧ k = 54)) (fun i => i = 287 ∨ i = 124 ∨ i = 288 ∨ i = 121) σ q6.2 := wt_fr.tr (wt_fr.tr wt_fr.rf fq (fun i k h => h.elim) (fun i h => Or.inl h)) f6 (fun i k h => h) (fun i h => h.elim (fun h => Or.inr (Or.inl h)) (fun h => Or.inr (Or.inr (Or.inl h))))
  refine wt_T_if (fun h => wt_T_some ⟨fr6, r6⟩) (fun h => ?_)
  have c := wt_nceq h
  have td : wt_TD q6.2 (wt_ga q (264 + Int32.toNatClampNeg x1) (Int32.toNatClampNeg (1 : Int32))).toInt (4 : Int32).toInt := by
    rcases v6 with v6 | v6
    · exact absurd v6.1 (by first | with_reducible assumption | omega)
    · exact v6.2.2
  have t1 : ∀ s : wt_St, wt_fr (fun _ _ => False) (fun i => i = 121 ∨ i = 124) q6.2 s → wt_ga s (264 + Int32.toNatClampNeg x1) (Int32.toNatClampNeg (1 : Int32)) = wt_ga q (264 + Int32.toNatClampNeg x1) (Int32.toNatClampNeg (1 : Int32)) := fun s fs => by
    rw [fs.2 _ (by first | with_reducible assumption | omega), f6.2 _ (by first | with_reducible assumption | omega)]
  generalize wt_ga q (264 + Int32.toNatClampNeg x1) (Int32.toNatClampNeg (1 : Int32)) = cp at *
  have gt : 0 ≤ (wt_gf q6.2 108 54).toInt ∧ (wt_gf q6.2 108 54).toInt ≤ 108 := wt_Rf10 r6
  refine wt_T_it (fun s : Int32 × wt_St => wt_fr (fun _ _ => False) (fun i => i = 121 ∨ i = 124) q6.2 s.2 ∧ wt_RI s.2 ∧ 0 ≤ s.1.toInt ∧ ∀ m : Nat, s.1.toInt ≤ (m : Int) → (m : Int) < (wt_gf q6.2 108 54).toInt → cp.toInt ≤ (wt_ga s.2 121 (Int32.toNatClampNeg (wt_ga q6.2 288 m))).toInt) (fun s => ((wt_gf q6.2 108 54).toInt - s.1.toInt).toNat) (fun K y hJ hK => ?_) n _ ?_ ?_
  · obtain ⟨fy, ry, m1, m2⟩ := hJ
    have em := wt_tnI m1
    unfold wp_md_isPrinted_B32
    rw [fy.1 108 54 (fun h => h), fy.2 288 (by decide) (Int32.toNatClampNeg y.1), t1 y.2 fy]
    refine wt_T_if (fun h2 => wt_T_some ⟨wt_fr.tr fr6 fy (fun i k h => h.elim) (fun i h => h.elim (fun h => Or.inr (Or.inr (Or.inr h))) (fun h => Or.inr (Or.inl h))), ry⟩) (fun h2 => ?_)
    have c2 := wt_ncle h2
    have gc : 0 ≤ (wt_ga q6.2 288 (Int32.toNatClampNeg y.1)).toInt ∧ (wt_ga q6.2 288 (Int32.toNatClampNeg y.1)).toInt ≤ 337 := wt_Ra15 r6 288 (by decide) (by decide) _
    have hge := m2 (Int32.toNatClampNeg y.1) (by first | with_reducible assumption | omega) (by first | with_reducible assumption | omega)
    have gl : 0 ≤ (wt_ga y.2 121 (Int32.toNatClampNeg (wt_ga q6.2 288 (Int32.toNatClampNeg y.1)))).toInt ∧ (wt_ga y.2 121 (Int32.toNatClampNeg (wt_ga q6.2 288 (Int32.toNatClampNeg y.1)))).toInt ≤ 400 := wt_Ra3 ry 121 (by decide) (by decide) _
    refine wt_T_gd (wt_ix (by first | with_reducible assumption | omega) (by first | with_reducible assumption | omega)) ?_
    refine wt_T_gd (wt_ix (by first | with_reducible assumption | omega) (by first | with_reducible assumption | omega)) ?_
    refine wt_T_gd (wt_ix (by first | with_reducible assumption | omega) (by first | with_reducible assumption | omega)) ?_
    refine wt_T_gd (wt_ix (by first | with_reducible assumption | omega) (by first | with_reducible assumption | omega)) ?_
    refine wt_T_gd (wt_ix (by first | with_reducible assumption | omega) (by first | with_reducible assumption | omega)) ?_
    refine wt_T_gd (wt_ix (by first | with_reducible assumption | omega) (by first | with_reducible assumption | omega)) ?_
    have es := wt_subE (x := wt_ga y.2 121 (Int32.toNatClampNeg (wt_ga q6.2 288 (Int32.toNatClampNeg y.1)))) (y := cp) (by first | with_reducible assumption | omega) (by first | with_reducible assumption | omega)
    obtain ⟨σ1, ε1⟩ : ∃ o : wt_St, o = wt_sa y.2 121 (Int32.toNatClampNeg (wt_ga q6.2 288 (Int32.toNatClampNeg y.1))) ((wt_ga y.2 121 (Int32.toNatClampNeg (wt_ga q6.2 288 (Int32.toNatClampNeg y.1)))) - cp) := ⟨_, rfl⟩
    rw [← ε1]
    have f1 := wt_fr_sa ε1
    have r1 := wt_Rn3 ry ε1 (by decide) (by decide) (show 0 ≤ ((wt_ga y.2 121 (Int32.toNatClampNeg (wt_ga q6.2 288 (Int32.toNatClampNeg y.1)))) - cp).toInt by omega) (show ((wt_ga y.2 121 (Int32.toNatClampNeg (wt_ga q6.2 288 (Int32.toNatClampNeg y.1)))) - cp).toInt ≤ 400 by omega)
    rw [f1.2 288 (by decide) (Int32.toNatClampNeg y.1), fy.2 288 (by decide) (Int32.toNatClampNeg y.1)]
    refine wt_T_gd (wt_ix (by first | with_reducible assumption | omega) (by first | with_reducible assumption | omega)) ?_
    obtain ⟨σ2, ε2⟩ : ∃ o : wt_St, o = wt_sa σ1 124 (Int32.toNatClampNeg (wt_ga q6.2 288 (Int32.toNatClampNeg y.1))) (-1 : Int32) := ⟨_, rfl⟩
    rw [← ε2]
    have f2 := wt_fr_sa ε2
    have ei := wt_i1 (c := y.1) (by first | with_reducible assumption | omega)
    refine hK _ ⟨wt_fr.tr (wt_fr.tr fy f1 (fun i k h => h) (fun i h => Or.inl h)) f2 (fun i k h => h) (fun i h => Or.inr h), wt_RI_no r1 ε2 124 125 (by decide +kernel) (by decide) (by decide), (show 0 ≤ (y.1 + (1 : Int32)).toInt by omega), fun m hm hm2 => ?_⟩ (show ((wt_gf q6.2 108 54).toInt - (y.1 + (1 : Int32)).toInt).toNat < ((wt_gf q6.2 108 54).toInt - y.1.toInt).toNat by omega)
    have hm' : (y.1 + (1 : Int32)).toInt ≤ (m : Int) := hm
    show cp.toInt ≤ (wt_ga σ2 121 (Int32.toNatClampNeg (wt_ga q6.2 288 m))).toInt
    have gm : 0 ≤ (wt_ga q6.2 288 m).toInt ∧ (wt_ga q6.2 288 m).toInt ≤ 337 := wt_Ra15 r6 288 (by decide) (by decide) _
    have hd := (td m hm2).2.2 (Int32.toNatClampNeg y.1) (by first | with_reducible assumption | omega)
    rw [f2.2 121 (by decide), wt_w_sa ε1 _ (fun w => hd (wt_eqI (by have := wt_tnI gm.1; have := wt_tnI gc.1; omega)))]
    exact m2 m (by first | with_reducible assumption | omega) hm2
  · refine ⟨wt_fr.rf, r6, (show 0 ≤ (0 : Int32).toInt by omega), fun m _ hm => (td m hm).2.1⟩
  · show ((wt_gf q6.2 108 54).toInt - (0 : Int32).toInt).toNat < n
    omega

set_option maxRecDepth 100000 in
set_option maxHeartbeats 4000000 in
theorem wq_md_prints (n : Nat) (hn : 4294967297 < n) (x1 : Int32) (x2 : Int32) (x3 : Int32) (σ : wt_St) (r0 : wt_RI σ) : wt_T (wp_md_prints n x1 x2 x3 σ) (fun q => wt_fr (fun i k => (i = 108 ∧ k = 54)) (fun i => i = 287 ∨ i = 124 ∨ i = 288 ∨ i = 121) σ q.2 ∧ wt_RI q.2) := by
  have bb1 := wt_bd x1
  have bb2 := wt_bd x2
  have bb3 := wt_bd x3
  unfold wp_md_prints
  have k10 : (0 : Int32).toInt = 0 := by decide
  refine wt_T_it (fun s : Int32 × Int32 × wt_St => wt_fr (fun i k => (i = 108 ∧ k = 54)) (fun i => i = 287 ∨ i = 124 ∨ i = 288 ∨ i = 121) σ s.2.2 ∧ 0 ≤ (s.2.1).toInt ∧ wt_RI s.2.2) (fun s : Int32 × Int32 × wt_St => (x3.toInt - s.2.1.toInt + 0).toNat) (fun KK4 z5 I6 hKK4 => ?_) _ _ ?_ ?_
  · skip
    obtain ⟨l7, l8, l9⟩ := I6
    unfold wp_md_prints_B6
    have bb11 := wt_bd z5.2.1
    refine wt_T_if (fun h12 => ?_) (fun h12 => ?_)
    · skip
      have c13 := wt_cle h12
      refine wt_T_some ?_
      exact ⟨(wt_fr.tr wt_fr.rf l7 (fun i k h => by (try dsimp only at h); exact (by first | exact h | omega)) (fun i h => by (try dsimp only at h); rcases h with h | h | h | h; exact Or.inl (by first | exact h | omega); exact Or.inr (Or.inl (by first | exact h | omega)); exact Or.inr (Or.inr (Or.inl (by first | exact h | omega))); exact Or.inr (Or.inr (Or.inr (by first | exact h | omega))))), l9⟩
    · skip
      have c14 := wt_ncle h12
      have bb21 := wt_bd z5.1
      refine wt_T_it (fun s : Int32 × Int32 × wt_St => wt_fr (fun i k => (i = 108 ∧ k = 54)) (fun i => i = 287 ∨ i = 124 ∨ i = 288 ∨ i = 121) z5.2.2 s.2.2 ∧ 0 ≤ (s.2.1).toInt ∧ wt_RI s.2.2) (fun s : Int32 × Int32 × wt_St => ((wt_gf s.2.2 108 40).toInt - s.2.1.toInt + 0).toNat) (fun KK15 z16 I17 hKK15 => ?_) _ _ ?_ ?_
      · skip
        obtain ⟨l18, l19, l20⟩ := I17
        unfold wp_md_prints_B15
        have g23 : 0 ≤ (wt_gf z16.2.2 108 40).toInt ∧ (wt_gf z16.2.2 108 40).toInt ≤ 10 := wt_Rf8 l20
        have tt24 : (wt_gf z16.2.2 108 40).toInt = (wt_gf z5.2.2 108 40).toInt := congrArg Int32.toInt (l18.1 108 40 (by (try dsimp only); omega))
        have tt27 : (wt_gf z5.2.2 108 40).toInt = (wt_gf σ 108 40).toInt := congrArg Int32.toInt (l7.1 108 40 (by (try dsimp only); omega))
        have bb30 := wt_bd z16.2.1
        refine wt_T_if (fun h31 => ?_) (fun h31 => ?_)
        · skip
          have c32 := wt_cle h31
          have bb33 := wt_bd z16.1
          refine hKK4 _ ⟨(wt_fr.tr (wt_fr.tr wt_fr.rf l7 (fun i k h => by (try dsimp only at h); exact (by first | exact h | omega)) (fun i h => by (try dsimp only at h); rcases h with h | h | h | h; exact Or.inl (by first | exact h | omega); exact Or.inr (Or.inl (by first | exact h | omega)); exact Or.inr (Or.inr (Or.inl (by first | exact h | omega))); exact Or.inr (Or.inr (Or.inr (by first | exact h | omega))))) l18 (fun i k h => by (try dsimp only at h); exact (by first | exact h | omega)) (fun i h => by (try dsimp only at h); rcases h with h | h | h | h; exact Or.inl (by first | exact h | omega); exact Or.inr (Or.inl (by first | exact h | omega)); exact Or.inr (Or.inr (Or.inl (by first | exact h | omega))); exact Or.inr (Or.inr (Or.inr (by first | exact h | omega))))), (wt_nn (B := x3) (by first | with_reducible assumption | omega) (by first | with_reducible assumption | omega)), l20⟩ ?_
          show (x3.toInt - (z5.2.1 + (1 : Int32)).toInt + 0).toNat < (x3.toInt - z5.2.1.toInt + 0).toNat
          exact wt_mu (by first | with_reducible assumption | omega) (by first | with_reducible assumption | omega)
        · skip
          have c34 := wt_ncle h31
          refine wt_T_gd (wt_ix (by first | with_reducible assumption | omega) (by first | with_reducible assumption | omega)) ?_
          have k35 : (2 : Int32).toInt = 2 := by decide
          refine wt_T_gd (wt_ix (by first | with_reducible assumption | omega) (by first | with_reducible assumption | omega)) ?_
          have bb36 := wt_tn z16.2.1
          have bb37 := wt_tn (2 : Int32)
          have bb38 := wt_bd (wt_ga z16.2.2 (264 + (Int32.toNatClampNeg z16.2.1)) (Int32.toNatClampNeg (2 : Int32)))
          have tt39 : (wt_ga z16.2.2 (264 + (Int32.toNatClampNeg z16.2.1)) (Int32.toNatClampNeg (2 : Int32))).toInt = (wt_ga z5.2.2 (264 + (Int32.toNatClampNeg z16.2.1)) (Int32.toNatClampNeg (2 : Int32))).toInt := congrArg Int32.toInt (l18.2 (264 + (Int32.toNatClampNeg z16.2.1)) (by (try dsimp only); omega) (Int32.toNatClampNeg (2 : Int32)))
          have bb40 := wt_bd (wt_ga z5.2.2 (264 + (Int32.toNatClampNeg z16.2.1)) (Int32.toNatClampNeg (2 : Int32)))
          have tt41 : (wt_ga z5.2.2 (264 + (Int32.toNatClampNeg z16.2.1)) (Int32.toNatClampNeg (2 : Int32))).toInt = (wt_ga σ (264 + (Int32.toNatClampNeg z16.2.1)) (Int32.toNatClampNeg (2 : Int32))).toInt := congrArg Int32.toInt (l7.2 (264 + (Int32.toNatClampNeg z16.2.1)) (by (try dsimp only); omega) (Int32.toNatClampNeg (2 : Int32)))
          have bb42 := wt_bd (wt_ga σ (264 + (Int32.toNatClampNeg z16.2.1)) (Int32.toNatClampNeg (2 : Int32)))
          refine wt_T_if (fun h43 => ?_) (fun h43 => ?_)
          · skip
            have c44 := wt_ceq h43
            have k45 : (31 : Int32).toInt = 31 := by decide
            have bb46 := wt_bd (z16.2.1 &&& 31)
            have bb47 := wt_bd (x1 >>> (z16.2.1 &&& 31))
            have k48 : (1 : Int32).toInt = 1 := by decide
            have bb49 := wt_bd ((x1 >>> (z16.2.1 &&& 31)) &&& (1 : Int32))
            refine wt_T_if (fun h50 => ?_) (fun h50 => ?_)
            · skip
              have c51 := wt_ceq h50
              unfold wp_md_prints_B77
              have bb52 := wt_bd z16.1
              refine hKK15 _ ⟨(wt_fr.tr wt_fr.rf l18 (fun i k h => by (try dsimp only at h); exact (by first | exact h | omega)) (fun i h => by (try dsimp only at h); rcases h with h | h | h | h; exact Or.inl (by first | exact h | omega); exact Or.inr (Or.inl (by first | exact h | omega)); exact Or.inr (Or.inr (Or.inl (by first | exact h | omega))); exact Or.inr (Or.inr (Or.inr (by first | exact h | omega))))), (wt_nn (B := wt_gf z16.2.2 108 40) (by first | with_reducible assumption | omega) (by first | with_reducible assumption | omega)), l20⟩ ?_
              show ((wt_gf z16.2.2 108 40).toInt - (z16.2.1 + (1 : Int32)).toInt + 0).toNat < ((wt_gf z16.2.2 108 40).toInt - z16.2.1.toInt + 0).toNat
              exact wt_mu (by first | with_reducible assumption | omega) (by first | with_reducible assumption | omega)
            · skip
              have c53 := wt_nceq h50
              refine wt_T_bi (wq_md_isPrinted n hn z16.2.1 z16.2.2 l20 (by first | with_reducible assumption | omega) (by first | with_reducible assumption | omega)) (fun r54 h55 => ?_)
              obtain ⟨f56, ri57⟩ := h55
              have bb58 := wt_bd r54.1
              refine wt_T_if (fun h59 => ?_) (fun h59 => ?_)
              · skip
                have c60 := wt_ceq h59
                refine wt_T_if (fun h61 => ?_) (fun h61 => ?_)
                · skip
                  have c62 := wt_ceq h61
                  refine wt_T_some ?_
                  exact ⟨(wt_fr.tr (wt_fr.tr (wt_fr.tr wt_fr.rf l7 (fun i k h => by (try dsimp only at h); exact (by first | exact h | omega)) (fun i h => by (try dsimp only at h); rcases h with h | h | h | h; exact Or.inl (by first | exact h | omega); exact Or.inr (Or.inl (by first | exact h | omega)); exact Or.inr (Or.inr (Or.inl (by first | exact h | omega))); exact Or.inr (Or.inr (Or.inr (by first | exact h | omega))))) l18 (fun i k h => by (try dsimp only at h); exact (by first | exact h | omega)) (fun i h => by (try dsimp only at h); rcases h with h | h | h | h; exact Or.inl (by first | exact h | omega); exact Or.inr (Or.inl (by first | exact h | omega)); exact Or.inr (Or.inr (Or.inl (by first | exact h | omega))); exact Or.inr (Or.inr (Or.inr (by first | exact h | omega))))) f56 (fun i k h => by (try dsimp only at h); exact (by first | exact h | omega)) (fun i h => by (try dsimp only at h); rcases h with h | h | h | h; exact Or.inl (by first | exact h | omega); exact Or.inr (Or.inl (by first | exact h | omega)); exact Or.inr (Or.inr (Or.inl (by first | exact h | omega))); exact Or.inr (Or.inr (Or.inr (by first | exact h | omega))))), ri57⟩
                · skip
                  have c63 := wt_nceq h61
                  unfold wp_md_prints_B77
                  have bb64 := wt_bd z16.1
                  have g66 : 0 ≤ (wt_gf r54.2 108 40).toInt ∧ (wt_gf r54.2 108 40).toInt ≤ 10 := wt_Rf8 ri57
                  have tt67 : (wt_gf r54.2 108 40).toInt = (wt_gf z16.2.2 108 40).toInt := congrArg Int32.toInt (f56.1 108 40 (by (try dsimp only); omega))
                  refine hKK15 _ ⟨(wt_fr.tr (wt_fr.tr wt_fr.rf l18 (fun i k h => by (try dsimp only at h); exact (by first | exact h | omega)) (fun i h => by (try dsimp only at h); rcases h with h | h | h | h; exact Or.inl (by first | exact h | omega); exact Or.inr (Or.inl (by first | exact h | omega)); exact Or.inr (Or.inr (Or.inl (by first | exact h | omega))); exact Or.inr (Or.inr (Or.inr (by first | exact h | omega))))) f56 (fun i k h => by (try dsimp only at h); exact (by first | exact h | omega)) (fun i h => by (try dsimp only at h); rcases h with h | h | h | h; exact Or.inl (by first | exact h | omega); exact Or.inr (Or.inl (by first | exact h | omega)); exact Or.inr (Or.inr (Or.inl (by first | exact h | omega))); exact Or.inr (Or.inr (Or.inr (by first | exact h | omega))))), (wt_nn (B := wt_gf z16.2.2 108 40) (by first | with_reducible assumption | omega) (by first | with_reducible assumption | omega)), ri57⟩ ?_
                  show ((wt_gf r54.2 108 40).toInt - (z16.2.1 + (1 : Int32)).toInt + 0).toNat < ((wt_gf z16.2.2 108 40).toInt - z16.2.1.toInt + 0).toNat
                  exact wt_mu (by first | with_reducible assumption | omega) (by first | with_reducible assumption | omega)
              · skip
                have c68 := wt_nceq h59
                unfold wp_md_prints_B77
                have bb69 := wt_bd z16.1
                have bb70 := wt_bd ((1 : Int32) <<< (z16.2.1 &&& 31))
                have bb71 := wt_bd (z16.1 ||| ((1 : Int32) <<< (z16.2.1 &&& 31)))
                have g73 : 0 ≤ (wt_gf r54.2 108 40).toInt ∧ (wt_gf r54.2 108 40).toInt ≤ 10 := wt_Rf8 ri57
                have tt74 : (wt_gf r54.2 108 40).toInt = (wt_gf z16.2.2 108 40).toInt := congrArg Int32.toInt (f56.1 108 40 (by (try dsimp only); omega))
                refine hKK15 _ ⟨(wt_fr.tr (wt_fr.tr wt_fr.rf l18 (fun i k h => by (try dsimp only at h); exact (by first | exact h | omega)) (fun i h => by (try dsimp only at h); rcases h with h | h | h | h; exact Or.inl (by first | exact h | omega); exact Or.inr (Or.inl (by first | exact h | omega)); exact Or.inr (Or.inr (Or.inl (by first | exact h | omega))); exact Or.inr (Or.inr (Or.inr (by first | exact h | omega))))) f56 (fun i k h => by (try dsimp only at h); exact (by first | exact h | omega)) (fun i h => by (try dsimp only at h); rcases h with h | h | h | h; exact Or.inl (by first | exact h | omega); exact Or.inr (Or.inl (by first | exact h | omega)); exact Or.inr (Or.inr (Or.inl (by first | exact h | omega))); exact Or.inr (Or.inr (Or.inr (by first | exact h | omega))))), (wt_nn (B := wt_gf z16.2.2 108 40) (by first | with_reducible assumption | omega) (by first | with_reducible assumption | omega)), ri57⟩ ?_
                show ((wt_gf r54.2 108 40).toInt - (z16.2.1 + (1 : Int32)).toInt + 0).toNat < ((wt_gf z16.2.2 108 40).toInt - z16.2.1.toInt + 0).toNat
                exact wt_mu (by first | with_reducible assumption | omega) (by first | with_reducible assumption | omega)
          · skip
            have c75 := wt_nceq h43
            unfold wp_md_prints_B77
            have bb76 := wt_bd z16.1
            refine hKK15 _ ⟨(wt_fr.tr wt_fr.rf l18 (fun i k h => by (try dsimp only at h); exact (by first | exact h | omega)) (fun i h => by (try dsimp only at h); rcases h with h | h | h | h; exact Or.inl (by first | exact h | omega); exact Or.inr (Or.inl (by first | exact h | omega)); exact Or.inr (Or.inr (Or.inl (by first | exact h | omega))); exact Or.inr (Or.inr (Or.inr (by first | exact h | omega))))), (wt_nn (B := wt_gf z16.2.2 108 40) (by first | with_reducible assumption | omega) (by first | with_reducible assumption | omega)), l20⟩ ?_
            show ((wt_gf z16.2.2 108 40).toInt - (z16.2.1 + (1 : Int32)).toInt + 0).toNat < ((wt_gf z16.2.2 108 40).toInt - z16.2.1.toInt + 0).toNat
            exact wt_mu (by first | with_reducible assumption | omega) (by first | with_reducible assumption | omega)
      · skip
        have g78 : 0 ≤ (wt_gf z5.2.2 108 40).toInt ∧ (wt_gf z5.2.2 108 40).toInt ≤ 10 := wt_Rf8 l9
        have tt79 : (wt_gf z5.2.2 108 40).toInt = (wt_gf σ 108 40).toInt := congrArg Int32.toInt (l7.1 108 40 (by (try dsimp only); omega))
        exact ⟨wt_fr.rf, (show 0 ≤ ((0 : Int32)).toInt by omega), l9⟩
      · skip
        have g83 : 0 ≤ (wt_gf z5.2.2 108 40).toInt ∧ (wt_gf z5.2.2 108 40).toInt ≤ 10 := wt_Rf8 l9
        have tt84 : (wt_gf z5.2.2 108 40).toInt = (wt_gf σ 108 40).toInt := congrArg Int32.toInt (l7.1 108 40 (by (try dsimp only); omega))
        show ((wt_gf z5.2.2 108 40).toInt - (0 : Int32).toInt + 0).toNat < n
        omega
  · skip
    exact ⟨wt_fr.rf, (show 0 ≤ ((0 : Int32)).toInt by omega), r0⟩
  · skip
    show (x3.toInt - (0 : Int32).toInt + 0).toNat < n
    omega
set_option maxRecDepth 100000 in
set_option maxHeartbeats 4000000 in
theorem wq_md_puts (n : Nat) (hn : 4294967297 < n) (σ : wt_St) (r0 : wt_RI σ) : wt_T (wp_md_puts n σ) (fun q => wt_fr (fun i k => False) (fun i => i = 286) σ q ∧ wt_RI q) := by
  unfold wp_md_puts
  have k7 : (0 : Int32).toInt = 0 := by decide
  refine wt_T_it (fun s : Int32 × wt_St => wt_fr (fun i k => False) (fun i => i = 286) σ s.2 ∧ 0 ≤ (s.1).toInt ∧ wt_RI s.2) (fun s : Int32 × wt_St => ((338 : Int32).toInt - s.1.toInt + 0).toNat) (fun KK1 z2 I3 hKK1 => ?_) _ _ ?_ ?_
  · skip
    obtain ⟨l4, l5, l6⟩ := I3
    unfold wp_md_puts_B2
    have k8 : (338 : Int32).toInt = 338 := by decide
    have bb9 := wt_bd z2.1
    refine wt_T_if (fun h10 => ?_) (fun h10 => ?_)
    · skip
      have c11 := wt_cle h10
      refine wt_T_some ?_
      exact ⟨(wt_fr.tr wt_fr.rf l4 (fun i k h => h.elim) (fun i h => by (try dsimp only at h); exact (by first | exact h | omega))), l6⟩
    · skip
      have c12 := wt_ncle h10
      refine wt_T_gd (wt_ix (by first | with_reducible assumption | omega) (by first | with_reducible assumption | omega)) ?_
      refine wt_T_gd (wt_ix (by first | with_reducible assumption | omega) (by first | with_reducible assumption | omega)) ?_
      obtain ⟨σ13, eσ13⟩ : ∃ z : wt_St, z = wt_sa z2.2 286 (Int32.toNatClampNeg z2.1) (wt_ga z2.2 121 (Int32.toNatClampNeg z2.1)) := ⟨_, rfl⟩
      rw [← eσ13]
      have fσ13 := wt_fr_sa eσ13
      have vσ13 := wt_ceq (wt_v_sa eσ13)
      have bb14 := wt_tn z2.1
      have g16 : 0 ≤ (wt_ga z2.2 121 (Int32.toNatClampNeg z2.1)).toInt ∧ (wt_ga z2.2 121 (Int32.toNatClampNeg z2.1)).toInt ≤ 400 := wt_Ra3 l6 121 (by decide) (by decide) (Int32.toNatClampNeg z2.1)
      have tt17 : (wt_ga z2.2 121 (Int32.toNatClampNeg z2.1)).toInt = (wt_ga σ 121 (Int32.toNatClampNeg z2.1)).toInt := congrArg Int32.toInt (l4.2 121 (by (try dsimp only); omega) (Int32.toNatClampNeg z2.1))
      have rσ13 := wt_Rn17 l6 eσ13 (by decide) (by decide) (show 0 ≤ (wt_ga z2.2 121 (Int32.toNatClampNeg z2.1)).toInt by omega) (show (wt_ga z2.2 121 (Int32.toNatClampNeg z2.1)).toInt ≤ 400 by omega)
      refine hKK1 _ ⟨(wt_fr.tr (wt_fr.tr wt_fr.rf l4 (fun i k h => h.elim) (fun i h => by (try dsimp only at h); exact (by first | exact h | omega))) fσ13 (fun i k h => h.elim) (fun i h => by (try dsimp only at h); exact (by first | exact h | omega))), (wt_nn (B := (338 : Int32)) (by first | with_reducible assumption | omega) (by first | with_reducible assumption | omega)), rσ13⟩ ?_
      show ((338 : Int32).toInt - (z2.1 + (1 : Int32)).toInt + 0).toNat < ((338 : Int32).toInt - z2.1.toInt + 0).toNat
      exact wt_mu (by first | with_reducible assumption | omega) (by first | with_reducible assumption | omega)
  · skip
    have k20 : (338 : Int32).toInt = 338 := by decide
    exact ⟨wt_fr.rf, (show 0 ≤ ((0 : Int32)).toInt by omega), r0⟩
  · skip
    have k21 : (338 : Int32).toInt = 338 := by decide
    show ((338 : Int32).toInt - (0 : Int32).toInt + 0).toNat < n
    omega
set_option maxRecDepth 100000 in
set_option maxHeartbeats 4000000 in
theorem wq_md_greedyAhead (n : Nat) (hn : 4294967297 < n) (x1 : Int32) (σ : wt_St) (r0 : wt_RI σ) : wt_T (wp_md_greedyAhead n x1 σ) (fun q => wt_fr (fun i k => (i = 108 ∧ k = 54)) (fun i => i = 286 ∨ i = 287 ∨ i = 124 ∨ i = 288 ∨ i = 121) σ q.2 ∧ wt_RI q.2) := by
  have bb1 := wt_bd x1
  unfold wp_md_greedyAhead
  refine wt_T_bi (wq_md_puts n hn σ r0) (fun r2 h3 => ?_)
  obtain ⟨f4, ri5⟩ := h3
  have k6 : (1 : Int32).toInt = 1 := by decide
  have g8 : 0 ≤ (wt_gf r2 108 40).toInt ∧ (wt_gf r2 108 40).toInt ≤ 10 := wt_Rf8 ri5
  have tt9 : (wt_gf r2 108 40).toInt = (wt_gf σ 108 40).toInt := congrArg Int32.toInt (f4.1 108 40 (fun z => z))
  have k12 : (31 : Int32).toInt = 31 := by decide
  have bb13 := wt_bd ((wt_gf r2 108 40) &&& 31)
  have bb14 := wt_bd ((1 : Int32) <<< ((wt_gf r2 108 40) &&& 31))
  obtain ⟨j15, j15a, j15b⟩ := wt_subI ((1 : Int32) <<< ((wt_gf r2 108 40) &&& 31)) (1 : Int32)
  refine wt_T_bi (wq_md_prints n hn (((1 : Int32) <<< ((wt_gf r2 108 40) &&& 31)) - (1 : Int32)) (1 : Int32) x1 r2 ri5) (fun r16 h17 => ?_)
  obtain ⟨f18, ri19⟩ := h17
  have bb20 := wt_bd r16.1
  refine wt_T_some ?_
  exact ⟨(wt_fr.tr (wt_fr.tr wt_fr.rf f4 (fun i k h => h.elim) (fun i h => by (try dsimp only at h); exact Or.inl (by first | exact h | omega))) f18 (fun i k h => by (try dsimp only at h); exact (by first | exact h | omega)) (fun i h => by (try dsimp only at h); rcases h with h | h | h | h; exact Or.inr (Or.inl (by first | exact h | omega)); exact Or.inr (Or.inr (Or.inl (by first | exact h | omega))); exact Or.inr (Or.inr (Or.inr (Or.inl (by first | exact h | omega)))); exact Or.inr (Or.inr (Or.inr (Or.inr (by first | exact h | omega)))))), ri19⟩
set_option maxRecDepth 100000 in
set_option maxHeartbeats 4000000 in
theorem wq_md_isWordNumber (n : Nat) (hn : 4294967297 < n) (x1 : Int32) (σ : wt_St) (r0 : wt_RI σ) : wt_T (wp_md_isWordNumber n x1 σ) (fun q => q.2 = σ ∧ (q.1.toInt = 0 ∨ (q.1.toInt = 1 ∧ 0 ≤ x1.toInt ∧ x1.toInt < (wt_gf σ 108 28).toInt))) := by
  have bb1 := wt_bd x1
  unfold wp_md_isWordNumber
  have k2 : (0 : Int32).toInt = 0 := by decide
  have g4 : 0 ≤ (wt_gf σ 108 28).toInt ∧ (wt_gf σ 108 28).toInt ≤ 60 := wt_Rf6 r0
  have k5 : (1 : Int32).toInt = 1 := by decide
  obtain ⟨j6, j6a, j6b⟩ := wt_subI (wt_gf σ 108 28) (1 : Int32)
  refine wt_T_bi (wq_md_in n hn x1 (0 : Int32) ((wt_gf σ 108 28) - (1 : Int32)) σ r0) (fun r7 h8 => ?_)
  obtain ⟨e9, pp10⟩ := h8
  have bb11 := wt_bd r7.1
  rw [e9]
  refine wt_T_some ?_
  exact ⟨rfl, (show (r7.1.toInt = 0 ∨ (r7.1.toInt = 1 ∧ 0 ≤ x1.toInt ∧ x1.toInt < (wt_gf σ 108 28).toInt)) from by omega)⟩
set_option maxRecDepth 100000 in
set_option maxHeartbeats 4000000 in
theorem wq_md_putsBack (n : Nat) (hn : 4294967297 < n) (σ : wt_St) (r0 : wt_RI σ) : wt_T (wp_md_putsBack n σ) (fun q => wt_fr (fun i k => False) (fun i => i = 121) σ q ∧ wt_RI q) := by
  unfold wp_md_putsBack
  have k7 : (0 : Int32).toInt = 0 := by decide
  refine wt_T_it (fun s : Int32 × wt_St => wt_fr (fun i k => False) (fun i => i = 121) σ s.2 ∧ 0 ≤ (s.1).toInt ∧ wt_RI s.2) (fun s : Int32 × wt_St => ((338 : Int32).toInt - s.1.toInt + 0).toNat) (fun KK1 z2 I3 hKK1 => ?_) _ _ ?_ ?_
  · skip
    obtain ⟨l4, l5, l6⟩ := I3
    unfold wp_md_putsBack_B2
    have k8 : (338 : Int32).toInt = 338 := by decide
    have bb9 := wt_bd z2.1
    refine wt_T_if (fun h10 => ?_) (fun h10 => ?_)
    · skip
      have c11 := wt_cle h10
      refine wt_T_some ?_
      exact ⟨(wt_fr.tr wt_fr.rf l4 (fun i k h => h.elim) (fun i h => by (try dsimp only at h); exact (by first | exact h | omega))), l6⟩
    · skip
      have c12 := wt_ncle h10
      refine wt_T_gd (wt_ix (by first | with_reducible assumption | omega) (by first | with_reducible assumption | omega)) ?_
      refine wt_T_gd (wt_ix (by first | with_reducible assumption | omega) (by first | with_reducible assumption | omega)) ?_
      obtain ⟨σ13, eσ13⟩ : ∃ z : wt_St, z = wt_sa z2.2 121 (Int32.toNatClampNeg z2.1) (wt_ga z2.2 286 (Int32.toNatClampNeg z2.1)) := ⟨_, rfl⟩
      rw [← eσ13]
      have fσ13 := wt_fr_sa eσ13
      have vσ13 := wt_ceq (wt_v_sa eσ13)
      have bb14 := wt_tn z2.1
      have g16 : 0 ≤ (wt_ga z2.2 286 (Int32.toNatClampNeg z2.1)).toInt ∧ (wt_ga z2.2 286 (Int32.toNatClampNeg z2.1)).toInt ≤ 400 := wt_Ra17 l6 286 (by decide) (by decide) (Int32.toNatClampNeg z2.1)
      have tt17 : (wt_ga z2.2 286 (Int32.toNatClampNeg z2.1)).toInt = (wt_ga σ 286 (Int32.toNatClampNeg z2.1)).toInt := congrArg Int32.toInt (l4.2 286 (by (try dsimp only); omega) (Int32.toNatClampNeg z2.1))
      have rσ13 := wt_Rn3 l6 eσ13 (by decide) (by decide) (show 0 ≤ (wt_ga z2.2 286 (Int32.toNatClampNeg z2.1)).toInt by omega) (show (wt_ga z2.2 286 (Int32.toNatClampNeg z2.1)).toInt ≤ 400 by omega)
      refine hKK1 _ ⟨(wt_fr.tr (wt_fr.tr wt_fr.rf l4 (fun i k h => h.elim) (fun i h => by (try dsimp only at h); exact (by first | exact h | omega))) fσ13 (fun i k h => h.elim) (fun i h => by (try dsimp only at h); exact (by first | exact h | omega))), (wt_nn (B := (338 : Int32)) (by first | with_reducible assumption | omega) (by first | with_reducible assumption | omega)), rσ13⟩ ?_
      show ((338 : Int32).toInt - (z2.1 + (1 : Int32)).toInt + 0).toNat < ((338 : Int32).toInt - z2.1.toInt + 0).toNat
      exact wt_mu (by first | with_reducible assumption | omega) (by first | with_reducible assumption | omega)
  · skip
    have k20 : (338 : Int32).toInt = 338 := by decide
    exact ⟨wt_fr.rf, (show 0 ≤ ((0 : Int32)).toInt by omega), r0⟩
  · skip
    have k21 : (338 : Int32).toInt = 338 := by decide
    show ((338 : Int32).toInt - (0 : Int32).toInt + 0).toNat < n
    omega
set_option maxRecDepth 100000 in
set_option maxHeartbeats 4000000 in
theorem wq_md_ends (n : Nat) (hn : 4294967297 < n) (x1 : Int32) (σ : wt_St) (r0 : wt_RI σ) : wt_T (wp_md_ends n x1 σ) (fun q => wt_fr (fun i k => (i = 108 ∧ k = 0) ∨ (i = 108 ∧ k = 54)) (fun i => i = 286 ∨ i = 287 ∨ i = 124 ∨ i = 288 ∨ i = 121) σ q.2 ∧ wt_RI q.2) := by
  have bb1 := wt_bd x1
  unfold wp_md_ends
  obtain ⟨σ2, eσ2⟩ : ∃ z : wt_St, z = wt_sf σ 108 0 (0 : Int32) := ⟨_, rfl⟩
  rw [← eσ2]
  have fσ2 := wt_fr_sf eσ2
  have vσ2 := wt_ceq (wt_v_sf eσ2)
  have k3 : (0 : Int32).toInt = 0 := by decide
  have rσ2 := wt_RI_fno r0 eσ2 (Or.inr (by decide +kernel))
  refine wt_T_bi (wq_md_isWordNumber n hn x1 σ2 rσ2) (fun r4 h5 => ?_)
  obtain ⟨e6, pp7⟩ := h5
  have bb8 := wt_bd r4.1
  rw [e6]
  have g10 : 0 ≤ (wt_gf σ2 108 28).toInt ∧ (wt_gf σ2 108 28).toInt ≤ 60 := wt_Rf6 rσ2
  have tt11 : (wt_gf σ2 108 28).toInt = (wt_gf σ 108 28).toInt := congrArg Int32.toInt (fσ2.1 108 28 (by (try dsimp only); omega))
  refine wt_T_if (fun h14 => ?_) (fun h14 => ?_)
  · skip
    have c15 := wt_ceq h14
    unfold wp_md_ends_B19
    have k16 : (1 : Int32).toInt = 1 := by decide
    refine wt_T_bi (wq_md_bad n hn (1 : Int32) (1 : Int32) σ2 rσ2 (by first | with_reducible assumption | omega)) (fun r17 h18 => ?_)
    obtain ⟨f19, ri20, pp21⟩ := h18
    have bb22 := wt_bd r17.1
    have bb23 := wt_bd (wt_gf r17.2 108 0)
    have bb24 := wt_bd (wt_gf σ2 108 0)
    refine wt_T_if (fun h25 => ?_) (fun h25 => ?_)
    · skip
      have c26 := wt_ceq h25
      refine wt_T_it (fun s : Int32 × wt_St => wt_fr (fun i k => (i = 108 ∧ k = 54)) (fun i => i = 286 ∨ i = 287 ∨ i = 124 ∨ i = 288 ∨ i = 121) r17.2 s.2 ∧ 0 ≤ (s.1).toInt ∧ wt_RI s.2) (fun s : Int32 × wt_St => ((100 : Int32).toInt - s.1.toInt + 1).toNat) (fun KK27 z28 I29 hKK27 => ?_) _ _ ?_ ?_
      · skip
        obtain ⟨l30, l31, l32⟩ := I29
        unfold wp_md_ends_B30
        have k33 : (100 : Int32).toInt = 100 := by decide
        have bb34 := wt_bd z28.1
        refine wt_T_if (fun h35 => ?_) (fun h35 => ?_)
        · skip
          have c36 := wt_clt h35
          refine wt_T_some ?_
          exact ⟨(wt_fr.tr (wt_fr.tr (wt_fr.tr wt_fr.rf fσ2 (fun i k h => by (try dsimp only at h); exact Or.inl (by first | exact h | omega)) (fun i h => h.elim)) f19 (fun i k h => by (try dsimp only at h); exact Or.inl (by first | exact h | omega)) (fun i h => h.elim)) l30 (fun i k h => by (try dsimp only at h); exact Or.inr (by first | exact h | omega)) (fun i h => by (try dsimp only at h); rcases h with h | h | h | h | h; exact Or.inl (by first | exact h | omega); exact Or.inr (Or.inl (by first | exact h | omega)); exact Or.inr (Or.inr (Or.inl (by first | exact h | omega))); exact Or.inr (Or.inr (Or.inr (Or.inl (by first | exact h | omega)))); exact Or.inr (Or.inr (Or.inr (Or.inr (by first | exact h | omega)))))), l32⟩
        · skip
          have c37 := wt_ncl h35
          refine wt_T_bi (wq_md_greedyAhead n hn z28.1 z28.2 l32) (fun r38 h39 => ?_)
          obtain ⟨f40, ri41⟩ := h39
          refine wt_T_bi (wq_md_canWord n hn x1 r38.2 ri41 (by first | with_reducible assumption | omega) (by first | with_reducible assumption | omega)) (fun r42 h43 => ?_)
          obtain ⟨f44, ri45, pp46⟩ := h43
          have bb47 := wt_bd r42.1
          refine wt_T_bi (wq_md_putsBack n hn r42.2 ri45) (fun r48 h49 => ?_)
          obtain ⟨f50, ri51⟩ := h49
          refine wt_T_if (fun h52 => ?_) (fun h52 => ?_)
          · skip
            have c53 := wt_ceq h52
            refine wt_T_some ?_
            exact ⟨(wt_fr.tr (wt_fr.tr (wt_fr.tr (wt_fr.tr (wt_fr.tr (wt_fr.tr wt_fr.rf fσ2 (fun i k h => by (try dsimp only at h); exact Or.inl (by first | exact h | omega)) (fun i h => h.elim)) f19 (fun i k h => by (try dsimp only at h); exact Or.inl (by first | exact h | omega)) (fun i h => h.elim)) l30 (fun i k h => by (try dsimp only at h); exact Or.inr (by first | exact h | omega)) (fun i h => by (try dsimp only at h); rcases h with h | h | h | h | h; exact Or.inl (by first | exact h | omega); exact Or.inr (Or.inl (by first | exact h | omega)); exact Or.inr (Or.inr (Or.inl (by first | exact h | omega))); exact Or.inr (Or.inr (Or.inr (Or.inl (by first | exact h | omega)))); exact Or.inr (Or.inr (Or.inr (Or.inr (by first | exact h | omega)))))) f40 (fun i k h => by (try dsimp only at h); exact Or.inr (by first | exact h | omega)) (fun i h => by (try dsimp only at h); rcases h with h | h | h | h | h; exact Or.inl (by first | exact h | omega); exact Or.inr (Or.inl (by first | exact h | omega)); exact Or.inr (Or.inr (Or.inl (by first | exact h | omega))); exact Or.inr (Or.inr (Or.inr (Or.inl (by first | exact h | omega)))); exact Or.inr (Or.inr (Or.inr (Or.inr (by first | exact h | omega)))))) f44 (fun i k h => h.elim) (fun i h => by (try dsimp only at h); exact Or.inr (Or.inl (by first | exact h | omega)))) f50 (fun i k h => h.elim) (fun i h => by (try dsimp only at h); exact Or.inr (Or.inr (Or.inr (Or.inr (by first | exact h | omega)))))), ri51⟩
          · skip
            have c54 := wt_nceq h52
            refine hKK27 _ ⟨(wt_fr.tr (wt_fr.tr (wt_fr.tr (wt_fr.tr wt_fr.rf l30 (fun i k h => by (try dsimp only at h); exact (by first | exact h | omega)) (fun i h => by (try dsimp only at h); rcases h with h | h | h | h | h; exact Or.inl (by first | exact h | omega); exact Or.inr (Or.inl (by first | exact h | omega)); exact Or.inr (Or.inr (Or.inl (by first | exact h | omega))); exact Or.inr (Or.inr (Or.inr (Or.inl (by first | exact h | omega)))); exact Or.inr (Or.inr (Or.inr (Or.inr (by first | exact h | omega)))))) f40 (fun i k h => by (try dsimp only at h); exact (by first | exact h | omega)) (fun i h => by (try dsimp only at h); rcases h with h | h | h | h | h; exact Or.inl (by first | exact h | omega); exact Or.inr (Or.inl (by first | exact h | omega)); exact Or.inr (Or.inr (Or.inl (by first | exact h | omega))); exact Or.inr (Or.inr (Or.inr (Or.inl (by first | exact h | omega)))); exact Or.inr (Or.inr (Or.inr (Or.inr (by first | exact h | omega)))))) f44 (fun i k h => h.elim) (fun i h => by (try dsimp only at h); exact Or.inr (Or.inl (by first | exact h | omega)))) f50 (fun i k h => h.elim) (fun i h => by (try dsimp only at h); exact Or.inr (Or.inr (Or.inr (Or.inr (by first | exact h | omega)))))), (wt_nn1 (B := (100 : Int32)) (by first | with_reducible assumption | omega) (by first | with_reducible assumption | omega) (by first | with_reducible assumption | omega)), ri51⟩ ?_
            show ((100 : Int32).toInt - (z28.1 + (1 : Int32)).toInt + 1).toNat < ((100 : Int32).toInt - z28.1.toInt + 1).toNat
            exact wt_mu1 (by first | with_reducible assumption | omega) (by first | with_reducible assumption | omega) (by first | with_reducible assumption | omega)
      · skip
        have k55 : (100 : Int32).toInt = 100 := by decide
        exact ⟨wt_fr.rf, (show 0 ≤ ((0 : Int32)).toInt by omega), ri20⟩
      · skip
        have k56 : (100 : Int32).toInt = 100 := by decide
        show ((100 : Int32).toInt - (0 : Int32).toInt + 1).toNat < n
        omega
    · skip
      have c57 := wt_nceq h25
      refine wt_T_some ?_
      exact ⟨(wt_fr.tr (wt_fr.tr wt_fr.rf fσ2 (fun i k h => by (try dsimp only at h); exact Or.inl (by first | exact h | omega)) (fun i h => h.elim)) f19 (fun i k h => by (try dsimp only at h); exact Or.inl (by first | exact h | omega)) (fun i h => h.elim)), ri20⟩
  · skip
    have c58 := wt_nceq h14
    unfold wp_md_ends_B19
    have k59 : (1 : Int32).toInt = 1 := by decide
    refine wt_T_bi (wq_md_bad n hn (0 : Int32) (1 : Int32) σ2 rσ2 (by first | with_reducible assumption | omega)) (fun r60 h61 => ?_)
    obtain ⟨f62, ri63, pp64⟩ := h61
    have bb65 := wt_bd r60.1
    have bb66 := wt_bd (wt_gf r60.2 108 0)
    have bb67 := wt_bd (wt_gf σ2 108 0)
    refine wt_T_if (fun h68 => ?_) (fun h68 => ?_)
    · skip
      have c69 := wt_ceq h68
      refine wt_T_it (fun s : Int32 × wt_St => wt_fr (fun i k => (i = 108 ∧ k = 54)) (fun i => i = 286 ∨ i = 287 ∨ i = 124 ∨ i = 288 ∨ i = 121) r60.2 s.2 ∧ 0 ≤ (s.1).toInt ∧ wt_RI s.2) (fun s : Int32 × wt_St => ((100 : Int32).toInt - s.1.toInt + 1).toNat) (fun KK70 z71 I72 hKK70 => ?_) _ _ ?_ ?_
      · skip
        obtain ⟨l73, l74, l75⟩ := I72
        unfold wp_md_ends_B30
        have k76 : (100 : Int32).toInt = 100 := by decide
        have bb77 := wt_bd z71.1
        refine wt_T_if (fun h78 => ?_) (fun h78 => ?_)
        · skip
          have c79 := wt_clt h78
          refine wt_T_some ?_
          exact ⟨(wt_fr.tr (wt_fr.tr (wt_fr.tr wt_fr.rf fσ2 (fun i k h => by (try dsimp only at h); exact Or.inl (by first | exact h | omega)) (fun i h => h.elim)) f62 (fun i k h => by (try dsimp only at h); exact Or.inl (by first | exact h | omega)) (fun i h => h.elim)) l73 (fun i k h => by (try dsimp only at h); exact Or.inr (by first | exact h | omega)) (fun i h => by (try dsimp only at h); rcases h with h | h | h | h | h; exact Or.inl (by first | exact h | omega); exact Or.inr (Or.inl (by first | exact h | omega)); exact Or.inr (Or.inr (Or.inl (by first | exact h | omega))); exact Or.inr (Or.inr (Or.inr (Or.inl (by first | exact h | omega)))); exact Or.inr (Or.inr (Or.inr (Or.inr (by first | exact h | omega)))))), l75⟩
        · skip
          have c80 := wt_ncl h78
          refine wt_T_bi (wq_md_greedyAhead n hn z71.1 z71.2 l75) (fun r81 h82 => ?_)
          obtain ⟨f83, ri84⟩ := h82
          refine wt_T_bi (wq_md_canWord n hn x1 r81.2 ri84 (by first | with_reducible assumption | omega) (by first | with_reducible assumption | omega)) (fun r85 h86 => ?_)
          obtain ⟨f87, ri88, pp89⟩ := h86
          have bb90 := wt_bd r85.1
          refine wt_T_bi (wq_md_putsBack n hn r85.2 ri88) (fun r91 h92 => ?_)
          obtain ⟨f93, ri94⟩ := h92
          refine wt_T_if (fun h95 => ?_) (fun h95 => ?_)
          · skip
            have c96 := wt_ceq h95
            refine wt_T_some ?_
            exact ⟨(wt_fr.tr (wt_fr.tr (wt_fr.tr (wt_fr.tr (wt_fr.tr (wt_fr.tr wt_fr.rf fσ2 (fun i k h => by (try dsimp only at h); exact Or.inl (by first | exact h | omega)) (fun i h => h.elim)) f62 (fun i k h => by (try dsimp only at h); exact Or.inl (by first | exact h | omega)) (fun i h => h.elim)) l73 (fun i k h => by (try dsimp only at h); exact Or.inr (by first | exact h | omega)) (fun i h => by (try dsimp only at h); rcases h with h | h | h | h | h; exact Or.inl (by first | exact h | omega); exact Or.inr (Or.inl (by first | exact h | omega)); exact Or.inr (Or.inr (Or.inl (by first | exact h | omega))); exact Or.inr (Or.inr (Or.inr (Or.inl (by first | exact h | omega)))); exact Or.inr (Or.inr (Or.inr (Or.inr (by first | exact h | omega)))))) f83 (fun i k h => by (try dsimp only at h); exact Or.inr (by first | exact h | omega)) (fun i h => by (try dsimp only at h); rcases h with h | h | h | h | h; exact Or.inl (by first | exact h | omega); exact Or.inr (Or.inl (by first | exact h | omega)); exact Or.inr (Or.inr (Or.inl (by first | exact h | omega))); exact Or.inr (Or.inr (Or.inr (Or.inl (by first | exact h | omega)))); exact Or.inr (Or.inr (Or.inr (Or.inr (by first | exact h | omega)))))) f87 (fun i k h => h.elim) (fun i h => by (try dsimp only at h); exact Or.inr (Or.inl (by first | exact h | omega)))) f93 (fun i k h => h.elim) (fun i h => by (try dsimp only at h); exact Or.inr (Or.inr (Or.inr (Or.inr (by first | exact h | omega)))))), ri94⟩
          · skip
            have c97 := wt_nceq h95
            refine hKK70 _ ⟨(wt_fr.tr (wt_fr.tr (wt_fr.tr (wt_fr.tr wt_fr.rf l73 (fun i k h => by (try dsimp only at h); exact (by first | exact h | omega)) (fun i h => by (try dsimp only at h); rcases h with h | h | h | h | h; exact Or.inl (by first | exact h | omega); exact Or.inr (Or.inl (by first | exact h | omega)); exact Or.inr (Or.inr (Or.inl (by first | exact h | omega))); exact Or.inr (Or.inr (Or.inr (Or.inl (by first | exact h | omega)))); exact Or.inr (Or.inr (Or.inr (Or.inr (by first | exact h | omega)))))) f83 (fun i k h => by (try dsimp only at h); exact (by first | exact h | omega)) (fun i h => by (try dsimp only at h); rcases h with h | h | h | h | h; exact Or.inl (by first | exact h | omega); exact Or.inr (Or.inl (by first | exact h | omega)); exact Or.inr (Or.inr (Or.inl (by first | exact h | omega))); exact Or.inr (Or.inr (Or.inr (Or.inl (by first | exact h | omega)))); exact Or.inr (Or.inr (Or.inr (Or.inr (by first | exact h | omega)))))) f87 (fun i k h => h.elim) (fun i h => by (try dsimp only at h); exact Or.inr (Or.inl (by first | exact h | omega)))) f93 (fun i k h => h.elim) (fun i h => by (try dsimp only at h); exact Or.inr (Or.inr (Or.inr (Or.inr (by first | exact h | omega)))))), (wt_nn1 (B := (100 : Int32)) (by first | with_reducible assumption | omega) (by first | with_reducible assumption | omega) (by first | with_reducible assumption | omega)), ri94⟩ ?_
            show ((100 : Int32).toInt - (z71.1 + (1 : Int32)).toInt + 1).toNat < ((100 : Int32).toInt - z71.1.toInt + 1).toNat
            exact wt_mu1 (by first | with_reducible assumption | omega) (by first | with_reducible assumption | omega) (by first | with_reducible assumption | omega)
      · skip
        have k98 : (100 : Int32).toInt = 100 := by decide
        exact ⟨wt_fr.rf, (show 0 ≤ ((0 : Int32)).toInt by omega), ri63⟩
      · skip
        have k99 : (100 : Int32).toInt = 100 := by decide
        show ((100 : Int32).toInt - (0 : Int32).toInt + 1).toNat < n
        omega
    · skip
      have c100 := wt_nceq h68
      refine wt_T_some ?_
      exact ⟨(wt_fr.tr (wt_fr.tr wt_fr.rf fσ2 (fun i k h => by (try dsimp only at h); exact Or.inl (by first | exact h | omega)) (fun i h => h.elim)) f62 (fun i k h => by (try dsimp only at h); exact Or.inl (by first | exact h | omega)) (fun i h => h.elim)), ri63⟩
set_option maxRecDepth 100000 in
set_option maxHeartbeats 4000000 in
theorem wq_md_exchange_B19 (n : Nat) (hn : 4294967297 < n) (x1 : Int32) (y1 : Int32) (σ : wt_St) (r0 : wt_RI σ) (m0 : wt_M12 σ) (p0 : y1.toInt ≠ 0 ∨ (0 ≤ x1.toInt ∧ x1.toInt < (wt_gf σ 108 39).toInt)) : wt_T (wp_md_exchange_B19 n x1 y1 σ) (fun q => wt_fr (fun i k => (i = 108 ∧ k = 0)) (fun i => i = 287 ∨ i = 121 ∨ i = 124 ∨ i = 111) σ q.2 ∧ wt_RI q.2 ∧ wt_M12 q.2) := by
  have bb1 := wt_bd x1
  have bb2 := wt_bd y1
  have g4 : 0 ≤ (wt_gf σ 108 39).toInt ∧ (wt_gf σ 108 39).toInt ≤ 8 := wt_Rf7 r0
  unfold wp_md_exchange_B19
  have k5 : (1 : Int32).toInt = 1 := by decide
  refine wt_T_bi (wq_md_bad n hn y1 (1 : Int32) σ r0 (by first | with_reducible assumption | omega)) (fun r6 h7 => ?_)
  obtain ⟨f8, ri9, pp10⟩ := h7
  have mi11 := wt_M_fr m0 f8 (by (try dsimp only); first | omega | exact fun h => h)
  have bb12 := wt_bd r6.1
  have bb13 := wt_bd (wt_gf r6.2 108 0)
  have bb14 := wt_bd (wt_gf σ 108 0)
  have k15 : (0 : Int32).toInt = 0 := by decide
  refine wt_T_if (fun h16 => ?_) (fun h16 => ?_)
  · skip
    have c17 := wt_ceq h16
    refine wt_T_bi (wq_md_needsText n hn x1 r6.2 ri9 (by first | with_reducible assumption | omega) (by first | with_reducible assumption | omega)) (fun r18 h19 => ?_)
    obtain ⟨f20, ri21, pp22⟩ := h19
    have mi23 := wt_M_fr mi11 f20 (by (try dsimp only); first | omega | exact fun h => h)
    refine wt_T_bi (wq_md_often n hn r18 ri21) (fun r24 h25 => ?_)
    obtain ⟨e26, pp27⟩ := h25
    have bb28 := wt_bd r24.1
    rw [e26]
    refine wt_T_it (fun s : Int32 × Int32 × Int32 × wt_St => wt_fr (fun i k => False) (fun i => i = 121 ∨ i = 124 ∨ i = 111) r18 s.2.2.2 ∧ 0 ≤ (s.2.2.1).toInt ∧ wt_RI s.2.2.2 ∧ wt_M12 s.2.2.2) (fun s : Int32 × Int32 × Int32 × wt_St => ((26 : Int32).toInt - s.2.2.1.toInt + 0).toNat) (fun KK29 z30 I31 hKK29 => ?_) _ _ ?_ ?_
    · skip
      obtain ⟨l32, l33, l34, l35⟩ := I31
      unfold wp_md_exchange_B43
      have k36 : (26 : Int32).toInt = 26 := by decide
      have bb37 := wt_bd z30.2.2.1
      refine wt_T_if (fun h38 => ?_) (fun h38 => ?_)
      · skip
        have c39 := wt_cle h38
        refine wt_T_some ?_
        exact ⟨(wt_fr.tr (wt_fr.tr (wt_fr.tr wt_fr.rf f8 (fun i k h => by (try dsimp only at h); exact (by first | exact h | omega)) (fun i h => h.elim)) f20 (fun i k h => h.elim) (fun i h => by (try dsimp only at h); exact Or.inl (by first | exact h | omega))) l32 (fun i k h => h.elim) (fun i h => by (try dsimp only at h); rcases h with h | h | h; exact Or.inr (Or.inl (by first | exact h | omega)); exact Or.inr (Or.inr (Or.inl (by first | exact h | omega))); exact Or.inr (Or.inr (Or.inr (by first | exact h | omega))))), l34, l35⟩
      · skip
        have c40 := wt_ncle h38
        refine wt_T_it (fun s : Int32 × Int32 × wt_St => s.2.2 = z30.2.2.2 ∧ 0 ≤ (s.2.1).toInt ∧ (s.1.toInt = -1 ∨ (0 ≤ s.1.toInt ∧ s.1.toInt ≤ 337))) (fun s : Int32 × Int32 × wt_St => ((wt_ga s.2.2 111 (Int32.toNatClampNeg z30.2.2.1)).toInt - s.2.1.toInt + 0).toNat) (fun KK41 z42 I43 hKK41 => ?_) _ _ ?_ ?_
        · skip
          obtain ⟨l44, l45, l46⟩ := I43
          unfold wp_md_exchange_B56
          rw [l44]
          have bb47 := wt_tn z30.2.2.1
          have bb48 := wt_bd (wt_ga z30.2.2.2 111 (Int32.toNatClampNeg z30.2.2.1))
          have g49 := l35 (Int32.toNatClampNeg z30.2.2.1)
          have g50 : 0 ≤ (wt_ga z30.2.2.2 111 (Int32.toNatClampNeg z30.2.2.1)).toInt ∧ (wt_ga z30.2.2.2 111 (Int32.toNatClampNeg z30.2.2.1)).toInt ≤ 13 := wt_Ra1 l34 111 (by decide) (by decide) (Int32.toNatClampNeg z30.2.2.1)
          have bb51 := wt_bd z42.2.1
          refine wt_T_gd (wt_ix (by first | with_reducible assumption | omega) (by first | with_reducible assumption | omega)) ?_
          refine wt_T_if (fun h52 => ?_) (fun h52 => ?_)
          · skip
            have c53 := wt_cle h52
            have bb61 := wt_bd z30.1
            have bb62 := wt_bd z30.2.1
            refine wt_T_it (fun s : Int32 × Int32 × Int32 × wt_St => wt_fr (fun i k => False) (fun i => i = 121 ∨ i = 124 ∨ i = 111) z30.2.2.2 s.2.2.2 ∧ 0 ≤ (s.2.2.1).toInt ∧ wt_RI s.2.2.2 ∧ wt_M12 s.2.2.2) (fun s : Int32 × Int32 × Int32 × wt_St => ((26 : Int32).toInt - s.2.2.1.toInt + 0).toNat) (fun KK54 z55 I56 hKK54 => ?_) _ _ ?_ ?_
            · skip
              obtain ⟨l57, l58, l59, l60⟩ := I56
              unfold wp_md_exchange_B130
              have bb63 := wt_bd z55.2.2.1
              refine wt_T_if (fun h64 => ?_) (fun h64 => ?_)
              · skip
                have c65 := wt_cle h64
                unfold wp_md_exchange_B279
                have bb66 := wt_bd z55.1
                have bb67 := wt_bd z55.2.1
                refine hKK29 _ ⟨(wt_fr.tr (wt_fr.tr wt_fr.rf l32 (fun i k h => h.elim) (fun i h => by (try dsimp only at h); rcases h with h | h | h; exact Or.inl (by first | exact h | omega); exact Or.inr (Or.inl (by first | exact h | omega)); exact Or.inr (Or.inr (by first | exact h | omega)))) l57 (fun i k h => h.elim) (fun i h => by (try dsimp only at h); rcases h with h | h | h; exact Or.inl (by first | exact h | omega); exact Or.inr (Or.inl (by first | exact h | omega)); exact Or.inr (Or.inr (by first | exact h | omega)))), (wt_nn (B := (26 : Int32)) (by first | with_reducible assumption | omega) (by first | with_reducible assumption | omega)), l59, l60⟩ ?_
                show ((26 : Int32).toInt - (z30.2.2.1 + (1 : Int32)).toInt + 0).toNat < ((26 : Int32).toInt - z30.2.2.1.toInt + 0).toNat
                exact wt_mu (by first | with_reducible assumption | omega) (by first | with_reducible assumption | omega)
              · skip
                have c68 := wt_ncle h64
                have bb69 := wt_bd z42.1
                refine wt_T_if (fun h70 => ?_) (fun h70 => ?_)
                · skip
                  have c71 := wt_ceq h70
                  rw [wt_lm1] at c71
                  unfold wp_md_exchange_B279
                  have bb72 := wt_bd z55.1
                  have bb73 := wt_bd z55.2.1
                  refine hKK29 _ ⟨(wt_fr.tr (wt_fr.tr wt_fr.rf l32 (fun i k h => h.elim) (fun i h => by (try dsimp only at h); rcases h with h | h | h; exact Or.inl (by first | exact h | omega); exact Or.inr (Or.inl (by first | exact h | omega)); exact Or.inr (Or.inr (by first | exact h | omega)))) l57 (fun i k h => h.elim) (fun i h => by (try dsimp only at h); rcases h with h | h | h; exact Or.inl (by first | exact h | omega); exact Or.inr (Or.inl (by first | exact h | omega)); exact Or.inr (Or.inr (by first | exact h | omega)))), (wt_nn (B := (26 : Int32)) (by first | with_reducible assumption | omega) (by first | with_reducible assumption | omega)), l59, l60⟩ ?_
                  show ((26 : Int32).toInt - (z30.2.2.1 + (1 : Int32)).toInt + 0).toNat < ((26 : Int32).toInt - z30.2.2.1.toInt + 0).toNat
                  exact wt_mu (by first | with_reducible assumption | omega) (by first | with_reducible assumption | omega)
                · skip
                  have c74 := wt_nceq h70
                  rw [wt_lm1] at c74
                  refine wt_T_gd (wt_ix (by first | with_reducible assumption | omega) (by first | with_reducible assumption | omega)) ?_
                  have bb75 := wt_tn z55.2.2.1
                  have g77 : 0 ≤ (wt_ga z55.2.2.2 113 (Int32.toNatClampNeg z55.2.2.1)).toInt ∧ (wt_ga z55.2.2.2 113 (Int32.toNatClampNeg z55.2.2.1)).toInt ≤ 12 := wt_Ra2 l59 113 (by decide) (by decide) (Int32.toNatClampNeg z55.2.2.1)
                  have tt78 : (wt_ga z55.2.2.2 113 (Int32.toNatClampNeg z55.2.2.1)).toInt = (wt_ga z30.2.2.2 113 (Int32.toNatClampNeg z55.2.2.1)).toInt := congrArg Int32.toInt (l57.2 113 (by (try dsimp only); omega) (Int32.toNatClampNeg z55.2.2.1))
                  have tt81 : (wt_ga z30.2.2.2 113 (Int32.toNatClampNeg z55.2.2.1)).toInt = (wt_ga r18 113 (Int32.toNatClampNeg z55.2.2.1)).toInt := congrArg Int32.toInt (l32.2 113 (by (try dsimp only); omega) (Int32.toNatClampNeg z55.2.2.1))
                  have tt84 : (wt_ga r18 113 (Int32.toNatClampNeg z55.2.2.1)).toInt = (wt_ga r6.2 113 (Int32.toNatClampNeg z55.2.2.1)).toInt := congrArg Int32.toInt (f20.2 113 (by (try dsimp only); omega) (Int32.toNatClampNeg z55.2.2.1))
                  have tt87 : (wt_ga r6.2 113 (Int32.toNatClampNeg z55.2.2.1)).toInt = (wt_ga σ 113 (Int32.toNatClampNeg z55.2.2.1)).toInt := congrArg Int32.toInt (f8.2 113 (fun z => z) (Int32.toNatClampNeg z55.2.2.1))
                  refine wt_T_if (fun h90 => ?_) (fun h90 => ?_)
                  · skip
                    have c91 := wt_ceq h90
                    unfold wp_md_exchange_B273
                    have bb92 := wt_bd z55.1
                    have bb93 := wt_bd z55.2.1
                    refine hKK54 _ ⟨(wt_fr.tr wt_fr.rf l57 (fun i k h => h.elim) (fun i h => by (try dsimp only at h); rcases h with h | h | h; exact Or.inl (by first | exact h | omega); exact Or.inr (Or.inl (by first | exact h | omega)); exact Or.inr (Or.inr (by first | exact h | omega)))), (wt_nn (B := (26 : Int32)) (by first | with_reducible assumption | omega) (by first | with_reducible assumption | omega)), l59, l60⟩ ?_
                    show ((26 : Int32).toInt - (z55.2.2.1 + (1 : Int32)).toInt + 0).toNat < ((26 : Int32).toInt - z55.2.2.1.toInt + 0).toNat
                    exact wt_mu (by first | with_reducible assumption | omega) (by first | with_reducible assumption | omega)
                  · skip
                    have c94 := wt_nceq h90
                    refine wt_T_it (fun s : Int32 × Int32 × wt_St => s.2.2 = z55.2.2.2 ∧ 0 ≤ (s.2.1).toInt ∧ 0 ≤ s.1.toInt ∧ s.1.toInt ≤ 400) (fun s : Int32 × Int32 × wt_St => ((wt_ga s.2.2 113 (Int32.toNatClampNeg z55.2.2.1)).toInt - s.2.1.toInt + 0).toNat) (fun KK95 z96 I97 hKK95 => ?_) _ _ ?_ ?_
                    · skip
                      obtain ⟨l98, l99, l100, l101⟩ := I97
                      unfold wp_md_exchange_B162
                      rw [l98]
                      have bb102 := wt_bd z96.2.1
                      refine wt_T_gd (wt_ix (by first | with_reducible assumption | omega) (by first | with_reducible assumption | omega)) ?_
                      refine wt_T_if (fun h103 => ?_) (fun h103 => ?_)
                      · skip
                        have c104 := wt_cle h103
                        refine wt_T_gd (wt_ix (by first | with_reducible assumption | omega) (by first | with_reducible assumption | omega)) ?_
                        refine wt_T_gd (wt_ix (by first | with_reducible assumption | omega) (by first | with_reducible assumption | omega)) ?_
                        obtain ⟨σ105, eσ105⟩ : ∃ z : wt_St, z = wt_sa z55.2.2.2 121 (Int32.toNatClampNeg z42.1) (0 : Int32) := ⟨_, rfl⟩
                        rw [← eσ105]
                        have fσ105 := wt_fr_sa eσ105
                        have vσ105 := wt_ceq (wt_v_sa eσ105)
                        have bb106 := wt_tn z42.1
                        have mσ105 := wt_M_no l60 eσ105 (by first | decide | omega)
                        have rσ105 := wt_Rn3 l59 eσ105 (by decide) (by decide) (show 0 ≤ ((0 : Int32)).toInt by omega) (show ((0 : Int32)).toInt ≤ 400 by omega)
                        have bb107 := wt_bd z96.1
                        refine wt_T_bi (wq_md_withOne n hn z55.2.2.1 z96.1 σ105 rσ105 mσ105 (by first | with_reducible assumption | omega) (by first | with_reducible assumption | omega) (by first | with_reducible assumption | omega) (by first | with_reducible assumption | omega)) (fun r108 h109 => ?_)
                        obtain ⟨f110, ri111, mi112⟩ := h109
                        have bb113 := wt_bd r108.1
                        refine wt_T_gd (wt_ix (by first | with_reducible assumption | omega) (by first | with_reducible assumption | omega)) ?_
                        have bb114 := wt_bd z55.1
                        refine wt_T_if (fun h115 => ?_) (fun h115 => ?_)
                        · skip
                          have c116 := wt_clt h115
                          obtain ⟨σ117, eσ117⟩ : ∃ z : wt_St, z = wt_sa r108.2 121 (Int32.toNatClampNeg z42.1) (wt_ga z55.2.2.2 121 (Int32.toNatClampNeg z42.1)) := ⟨_, rfl⟩
                          rw [← eσ117]
                          have fσ117 := wt_fr_sa eσ117
                          have vσ117 := wt_ceq (wt_v_sa eσ117)
                          have g119 : 0 ≤ (wt_ga z55.2.2.2 121 (Int32.toNatClampNeg z42.1)).toInt ∧ (wt_ga z55.2.2.2 121 (Int32.toNatClampNeg z42.1)).toInt ≤ 400 := wt_Ra3 l59 121 (by decide) (by decide) (Int32.toNatClampNeg z42.1)
                          have mσ117 := wt_M_no mi112 eσ117 (by first | decide | omega)
                          have rσ117 := wt_Rn3 ri111 eσ117 (by decide) (by decide) (show 0 ≤ (wt_ga z55.2.2.2 121 (Int32.toNatClampNeg z42.1)).toInt by omega) (show (wt_ga z55.2.2.2 121 (Int32.toNatClampNeg z42.1)).toInt ≤ 400 by omega)
                          unfold wp_md_exchange_B273
                          have k120 : (100 : Int32).toInt = 100 := by decide
                          obtain ⟨j121, j121a, j121b⟩ := wt_mulI (100 : Int32) z30.2.2.1
                          rw [show (100 : Int32).toInt = 100 from by decide] at j121a
                          obtain ⟨j122, j122a, j122b⟩ := wt_addI ((100 : Int32) * z30.2.2.1) z55.2.2.1
                          refine hKK54 _ ⟨(wt_fr.tr (wt_fr.tr (wt_fr.tr (wt_fr.tr wt_fr.rf l57 (fun i k h => h.elim) (fun i h => by (try dsimp only at h); rcases h with h | h | h; exact Or.inl (by first | exact h | omega); exact Or.inr (Or.inl (by first | exact h | omega)); exact Or.inr (Or.inr (by first | exact h | omega)))) fσ105 (fun i k h => h.elim) (fun i h => by (try dsimp only at h); exact Or.inl (by first | exact h | omega))) f110 (fun i k h => h.elim) (fun i h => by (try dsimp only at h); rcases h with h | h | h; exact Or.inl (by first | exact h | omega); exact Or.inr (Or.inl (by first | exact h | omega)); exact Or.inr (Or.inr (by first | exact h | omega)))) fσ117 (fun i k h => h.elim) (fun i h => by (try dsimp only at h); exact Or.inl (by first | exact h | omega))), (wt_nn (B := (26 : Int32)) (by first | with_reducible assumption | omega) (by first | with_reducible assumption | omega)), rσ117, mσ117⟩ ?_
                          show ((26 : Int32).toInt - (z55.2.2.1 + (1 : Int32)).toInt + 0).toNat < ((26 : Int32).toInt - z55.2.2.1.toInt + 0).toNat
                          exact wt_mu (by first | with_reducible assumption | omega) (by first | with_reducible assumption | omega)
                        · skip
                          have c123 := wt_ncl h115
                          obtain ⟨σ124, eσ124⟩ : ∃ z : wt_St, z = wt_sa r108.2 121 (Int32.toNatClampNeg z42.1) (wt_ga z55.2.2.2 121 (Int32.toNatClampNeg z42.1)) := ⟨_, rfl⟩
                          rw [← eσ124]
                          have fσ124 := wt_fr_sa eσ124
                          have vσ124 := wt_ceq (wt_v_sa eσ124)
                          have g126 : 0 ≤ (wt_ga z55.2.2.2 121 (Int32.toNatClampNeg z42.1)).toInt ∧ (wt_ga z55.2.2.2 121 (Int32.toNatClampNeg z42.1)).toInt ≤ 400 := wt_Ra3 l59 121 (by decide) (by decide) (Int32.toNatClampNeg z42.1)
                          have mσ124 := wt_M_no mi112 eσ124 (by first | decide | omega)
                          have rσ124 := wt_Rn3 ri111 eσ124 (by decide) (by decide) (show 0 ≤ (wt_ga z55.2.2.2 121 (Int32.toNatClampNeg z42.1)).toInt by omega) (show (wt_ga z55.2.2.2 121 (Int32.toNatClampNeg z42.1)).toInt ≤ 400 by omega)
                          unfold wp_md_exchange_B273
                          have bb127 := wt_bd z55.2.1
                          refine hKK54 _ ⟨(wt_fr.tr (wt_fr.tr (wt_fr.tr (wt_fr.tr wt_fr.rf l57 (fun i k h => h.elim) (fun i h => by (try dsimp only at h); rcases h with h | h | h; exact Or.inl (by first | exact h | omega); exact Or.inr (Or.inl (by first | exact h | omega)); exact Or.inr (Or.inr (by first | exact h | omega)))) fσ105 (fun i k h => h.elim) (fun i h => by (try dsimp only at h); exact Or.inl (by first | exact h | omega))) f110 (fun i k h => h.elim) (fun i h => by (try dsimp only at h); rcases h with h | h | h; exact Or.inl (by first | exact h | omega); exact Or.inr (Or.inl (by first | exact h | omega)); exact Or.inr (Or.inr (by first | exact h | omega)))) fσ124 (fun i k h => h.elim) (fun i h => by (try dsimp only at h); exact Or.inl (by first | exact h | omega))), (wt_nn (B := (26 : Int32)) (by first | with_reducible assumption | omega) (by first | with_reducible assumption | omega)), rσ124, mσ124⟩ ?_
                          show ((26 : Int32).toInt - (z55.2.2.1 + (1 : Int32)).toInt + 0).toNat < ((26 : Int32).toInt - z55.2.2.1.toInt + 0).toNat
                          exact wt_mu (by first | with_reducible assumption | omega) (by first | with_reducible assumption | omega)
                      · skip
                        have c128 := wt_ncle h103
                        refine wt_T_bi (wq_md_cell n hn z55.2.2.1 z96.2.1 z55.2.2.2 l59 (by first | with_reducible assumption | omega) (by first | with_reducible assumption | omega) (by first | with_reducible assumption | omega) (by first | with_reducible assumption | omega)) (fun r129 h130 => ?_)
                        obtain ⟨e131, pp132⟩ := h130
                        have bb133 := wt_bd r129.1
                        rw [e131]
                        refine wt_T_gd (wt_ix (by first | with_reducible assumption | omega) (by first | with_reducible assumption | omega)) ?_
                        have bb134 := wt_tn r129.1
                        have g136 : 0 ≤ (wt_ga z55.2.2.2 123 (Int32.toNatClampNeg r129.1)).toInt ∧ (wt_ga z55.2.2.2 123 (Int32.toNatClampNeg r129.1)).toInt ≤ 400 := wt_Ra4 l59 123 (by decide) (by decide) (Int32.toNatClampNeg r129.1)
                        have tt137 : (wt_ga z55.2.2.2 123 (Int32.toNatClampNeg r129.1)).toInt = (wt_ga z30.2.2.2 123 (Int32.toNatClampNeg r129.1)).toInt := congrArg Int32.toInt (l57.2 123 (by (try dsimp only); omega) (Int32.toNatClampNeg r129.1))
                        have tt140 : (wt_ga z30.2.2.2 123 (Int32.toNatClampNeg r129.1)).toInt = (wt_ga r18 123 (Int32.toNatClampNeg r129.1)).toInt := congrArg Int32.toInt (l32.2 123 (by (try dsimp only); omega) (Int32.toNatClampNeg r129.1))
                        have tt143 : (wt_ga r18 123 (Int32.toNatClampNeg r129.1)).toInt = (wt_ga r6.2 123 (Int32.toNatClampNeg r129.1)).toInt := congrArg Int32.toInt (f20.2 123 (by (try dsimp only); omega) (Int32.toNatClampNeg r129.1))
                        have tt146 : (wt_ga r6.2 123 (Int32.toNatClampNeg r129.1)).toInt = (wt_ga σ 123 (Int32.toNatClampNeg r129.1)).toInt := congrArg Int32.toInt (f8.2 123 (fun z => z) (Int32.toNatClampNeg r129.1))
                        have bb149 := wt_bd z96.1
                        refine wt_T_if (fun h150 => ?_) (fun h150 => ?_)
                        · skip
                          have c151 := wt_cle h150
                          unfold wp_md_exchange_B208
                          obtain ⟨j152, j152a, j152b⟩ := wt_addI z96.2.1 (1 : Int32)
                          refine hKK95 _ ⟨rfl, (wt_nn (B := wt_ga z96.2.2 113 (Int32.toNatClampNeg z55.2.2.1)) (by first | with_reducible assumption | omega) (by first | (rw [l98]; omega) | (rw [l98]; done) | omega)), (show 0 ≤ z96.1.toInt by omega), (show z96.1.toInt ≤ 400 by omega)⟩ ?_
                          show ((wt_ga z55.2.2.2 113 (Int32.toNatClampNeg z55.2.2.1)).toInt - (z96.2.1 + (1 : Int32)).toInt + 0).toNat < ((wt_ga z96.2.2 113 (Int32.toNatClampNeg z55.2.2.1)).toInt - z96.2.1.toInt + 0).toNat
                          exact wt_mu (by first | (rw [l98]; omega) | (rw [l98]; done) | omega) (by first | (rw [l98]; omega) | (rw [l98]; done) | omega)
                        · skip
                          have c153 := wt_ncle h150
                          refine wt_T_bi (wq_md_cell n hn z55.2.2.1 z96.2.1 z55.2.2.2 l59 (by first | with_reducible assumption | omega) (by first | with_reducible assumption | omega) (by first | with_reducible assumption | omega) (by first | with_reducible assumption | omega)) (fun r154 h155 => ?_)
                          obtain ⟨e156, pp157⟩ := h155
                          have bb158 := wt_bd r154.1
                          rw [e156]
                          refine wt_T_gd (wt_ix (by first | with_reducible assumption | omega) (by first | with_reducible assumption | omega)) ?_
                          unfold wp_md_exchange_B208
                          have bb159 := wt_tn r154.1
                          have g161 : 0 ≤ (wt_ga z55.2.2.2 123 (Int32.toNatClampNeg r154.1)).toInt ∧ (wt_ga z55.2.2.2 123 (Int32.toNatClampNeg r154.1)).toInt ≤ 400 := wt_Ra4 l59 123 (by decide) (by decide) (Int32.toNatClampNeg r154.1)
                          have tt162 : (wt_ga z55.2.2.2 123 (Int32.toNatClampNeg r154.1)).toInt = (wt_ga z30.2.2.2 123 (Int32.toNatClampNeg r154.1)).toInt := congrArg Int32.toInt (l57.2 123 (by (try dsimp only); omega) (Int32.toNatClampNeg r154.1))
                          have tt165 : (wt_ga z30.2.2.2 123 (Int32.toNatClampNeg r154.1)).toInt = (wt_ga r18 123 (Int32.toNatClampNeg r154.1)).toInt := congrArg Int32.toInt (l32.2 123 (by (try dsimp only); omega) (Int32.toNatClampNeg r154.1))
                          have tt168 : (wt_ga r18 123 (Int32.toNatClampNeg r154.1)).toInt = (wt_ga r6.2 123 (Int32.toNatClampNeg r154.1)).toInt := congrArg Int32.toInt (f20.2 123 (by (try dsimp only); omega) (Int32.toNatClampNeg r154.1))
                          have tt171 : (wt_ga r6.2 123 (Int32.toNatClampNeg r154.1)).toInt = (wt_ga σ 123 (Int32.toNatClampNeg r154.1)).toInt := congrArg Int32.toInt (f8.2 123 (fun z => z) (Int32.toNatClampNeg r154.1))
                          obtain ⟨j174, j174a, j174b⟩ := wt_addI z96.2.1 (1 : Int32)
                          refine hKK95 _ ⟨rfl, (wt_nn (B := wt_ga z96.2.2 113 (Int32.toNatClampNeg z55.2.2.1)) (by first | with_reducible assumption | omega) (by first | (rw [l98]; omega) | (rw [l98]; done) | omega)), (show 0 ≤ (wt_ga z55.2.2.2 123 (Int32.toNatClampNeg r154.1)).toInt by omega), (show (wt_ga z55.2.2.2 123 (Int32.toNatClampNeg r154.1)).toInt ≤ 400 by omega)⟩ ?_
                          show ((wt_ga z55.2.2.2 113 (Int32.toNatClampNeg z55.2.2.1)).toInt - (z96.2.1 + (1 : Int32)).toInt + 0).toNat < ((wt_ga z96.2.2 113 (Int32.toNatClampNeg z55.2.2.1)).toInt - z96.2.1.toInt + 0).toNat
                          exact wt_mu (by first | (rw [l98]; omega) | (rw [l98]; done) | omega) (by first | (rw [l98]; omega) | (rw [l98]; done) | omega)
                    · skip
                      exact ⟨rfl, (show 0 ≤ ((0 : Int32)).toInt by omega), (show 0 ≤ (0 : Int32).toInt by omega), (show (0 : Int32).toInt ≤ 400 by omega)⟩
                    · skip
                      show ((wt_ga z55.2.2.2 113 (Int32.toNatClampNeg z55.2.2.1)).toInt - (0 : Int32).toInt + 0).toNat < n
                      omega
            · skip
              exact ⟨wt_fr.rf, (show 0 ≤ ((0 : Int32)).toInt by omega), l34, l35⟩
            · skip
              show ((26 : Int32).toInt - (0 : Int32).toInt + 0).toNat < n
              omega
          · skip
            have c175 := wt_ncle h52
            refine wt_T_bi (wq_md_cell n hn z30.2.2.1 z42.2.1 z30.2.2.2 l34 (by first | with_reducible assumption | omega) (by first | with_reducible assumption | omega) (by first | with_reducible assumption | omega) (by first | with_reducible assumption | omega)) (fun r176 h177 => ?_)
            obtain ⟨e178, pp179⟩ := h177
            have bb180 := wt_bd r176.1
            rw [e178]
            refine wt_T_gd (wt_ix (by first | with_reducible assumption | omega) (by first | with_reducible assumption | omega)) ?_
            have bb181 := wt_tn r176.1
            have bb182 := wt_bd (wt_ga z30.2.2.2 124 (Int32.toNatClampNeg r176.1))
            refine wt_T_if (fun h183 => ?_) (fun h183 => ?_)
            · skip
              have c184 := wt_ceq h183
              rw [wt_lm1] at c184
              have bb185 := wt_bd z42.1
              refine wt_T_if (fun h186 => ?_) (fun h186 => ?_)
              · skip
                have c187 := wt_ceq h186
                rw [wt_lm1] at c187
                unfold wp_md_exchange_B112
                refine wt_T_bi (wq_md_cell n hn z30.2.2.1 z42.2.1 z30.2.2.2 l34 (by first | with_reducible assumption | omega) (by first | with_reducible assumption | omega) (by first | with_reducible assumption | omega) (by first | with_reducible assumption | omega)) (fun r188 h189 => ?_)
                obtain ⟨e190, pp191⟩ := h189
                have bb192 := wt_bd r188.1
                rw [e190]
                unfold wp_md_exchange_B121
                obtain ⟨j193, j193a, j193b⟩ := wt_addI z42.2.1 (1 : Int32)
                refine hKK41 _ ⟨rfl, (wt_nn (B := wt_ga z42.2.2 111 (Int32.toNatClampNeg z30.2.2.1)) (by first | with_reducible assumption | omega) (by first | (rw [l44]; omega) | (rw [l44]; done) | omega)), (show (r188.1.toInt = -1 ∨ (0 ≤ r188.1.toInt ∧ r188.1.toInt ≤ 337)) by omega)⟩ ?_
                show ((wt_ga z30.2.2.2 111 (Int32.toNatClampNeg z30.2.2.1)).toInt - (z42.2.1 + (1 : Int32)).toInt + 0).toNat < ((wt_ga z42.2.2 111 (Int32.toNatClampNeg z30.2.2.1)).toInt - z42.2.1.toInt + 0).toNat
                exact wt_mu (by first | (rw [l44]; omega) | (rw [l44]; done) | omega) (by first | (rw [l44]; omega) | (rw [l44]; done) | omega)
              · skip
                have c194 := wt_nceq h186
                rw [wt_lm1] at c194
                refine wt_T_bi (wq_md_cell n hn z30.2.2.1 z42.2.1 z30.2.2.2 l34 (by first | with_reducible assumption | omega) (by first | with_reducible assumption | omega) (by first | with_reducible assumption | omega) (by first | with_reducible assumption | omega)) (fun r195 h196 => ?_)
                obtain ⟨e197, pp198⟩ := h196
                have bb199 := wt_bd r195.1
                rw [e197]
                refine wt_T_gd (wt_ix (by first | with_reducible assumption | omega) (by first | with_reducible assumption | omega)) ?_
                refine wt_T_gd (wt_ix (by first | with_reducible assumption | omega) (by first | with_reducible assumption | omega)) ?_
                have bb200 := wt_tn z42.1
                have g202 : 0 ≤ (wt_ga z30.2.2.2 121 (Int32.toNatClampNeg z42.1)).toInt ∧ (wt_ga z30.2.2.2 121 (Int32.toNatClampNeg z42.1)).toInt ≤ 400 := wt_Ra3 l34 121 (by decide) (by decide) (Int32.toNatClampNeg z42.1)
                have bb203 := wt_tn r195.1
                have g205 : 0 ≤ (wt_ga z30.2.2.2 121 (Int32.toNatClampNeg r195.1)).toInt ∧ (wt_ga z30.2.2.2 121 (Int32.toNatClampNeg r195.1)).toInt ≤ 400 := wt_Ra3 l34 121 (by decide) (by decide) (Int32.toNatClampNeg r195.1)
                refine wt_T_if (fun h206 => ?_) (fun h206 => ?_)
                · skip
                  have c207 := wt_cle h206
                  unfold wp_md_exchange_B121
                  obtain ⟨j208, j208a, j208b⟩ := wt_addI z42.2.1 (1 : Int32)
                  refine hKK41 _ ⟨rfl, (wt_nn (B := wt_ga z42.2.2 111 (Int32.toNatClampNeg z30.2.2.1)) (by first | with_reducible assumption | omega) (by first | (rw [l44]; omega) | (rw [l44]; done) | omega)), (show (z42.1.toInt = -1 ∨ (0 ≤ z42.1.toInt ∧ z42.1.toInt ≤ 337)) by omega)⟩ ?_
                  show ((wt_ga z30.2.2.2 111 (Int32.toNatClampNeg z30.2.2.1)).toInt - (z42.2.1 + (1 : Int32)).toInt + 0).toNat < ((wt_ga z42.2.2 111 (Int32.toNatClampNeg z30.2.2.1)).toInt - z42.2.1.toInt + 0).toNat
                  exact wt_mu (by first | (rw [l44]; omega) | (rw [l44]; done) | omega) (by first | (rw [l44]; omega) | (rw [l44]; done) | omega)
                · skip
                  have c209 := wt_ncle h206
                  unfold wp_md_exchange_B112
                  refine wt_T_bi (wq_md_cell n hn z30.2.2.1 z42.2.1 z30.2.2.2 l34 (by first | with_reducible assumption | omega) (by first | with_reducible assumption | omega) (by first | with_reducible assumption | omega) (by first | with_reducible assumption | omega)) (fun r210 h211 => ?_)
                  obtain ⟨e212, pp213⟩ := h211
                  have bb214 := wt_bd r210.1
                  rw [e212]
                  unfold wp_md_exchange_B121
                  obtain ⟨j215, j215a, j215b⟩ := wt_addI z42.2.1 (1 : Int32)
                  refine hKK41 _ ⟨rfl, (wt_nn (B := wt_ga z42.2.2 111 (Int32.toNatClampNeg z30.2.2.1)) (by first | with_reducible assumption | omega) (by first | (rw [l44]; omega) | (rw [l44]; done) | omega)), (show (r210.1.toInt = -1 ∨ (0 ≤ r210.1.toInt ∧ r210.1.toInt ≤ 337)) by omega)⟩ ?_
                  show ((wt_ga z30.2.2.2 111 (Int32.toNatClampNeg z30.2.2.1)).toInt - (z42.2.1 + (1 : Int32)).toInt + 0).toNat < ((wt_ga z42.2.2 111 (Int32.toNatClampNeg z30.2.2.1)).toInt - z42.2.1.toInt + 0).toNat
                  exact wt_mu (by first | (rw [l44]; omega) | (rw [l44]; done) | omega) (by first | (rw [l44]; omega) | (rw [l44]; done) | omega)
            · skip
              have c216 := wt_nceq h183
              rw [wt_lm1] at c216
              unfold wp_md_exchange_B121
              have bb217 := wt_bd z42.1
              obtain ⟨j218, j218a, j218b⟩ := wt_addI z42.2.1 (1 : Int32)
              refine hKK41 _ ⟨rfl, (wt_nn (B := wt_ga z42.2.2 111 (Int32.toNatClampNeg z30.2.2.1)) (by first | with_reducible assumption | omega) (by first | (rw [l44]; omega) | (rw [l44]; done) | omega)), (show (z42.1.toInt = -1 ∨ (0 ≤ z42.1.toInt ∧ z42.1.toInt ≤ 337)) by omega)⟩ ?_
              show ((wt_ga z30.2.2.2 111 (Int32.toNatClampNeg z30.2.2.1)).toInt - (z42.2.1 + (1 : Int32)).toInt + 0).toNat < ((wt_ga z42.2.2 111 (Int32.toNatClampNeg z30.2.2.1)).toInt - z42.2.1.toInt + 0).toNat
              exact wt_mu (by first | (rw [l44]; omega) | (rw [l44]; done) | omega) (by first | (rw [l44]; omega) | (rw [l44]; done) | omega)
        · skip
          have bb219 := wt_tn z30.2.2.1
          have bb220 := wt_bd (wt_ga z30.2.2.2 111 (Int32.toNatClampNeg z30.2.2.1))
          have g221 := l35 (Int32.toNatClampNeg z30.2.2.1)
          have g222 : 0 ≤ (wt_ga z30.2.2.2 111 (Int32.toNatClampNeg z30.2.2.1)).toInt ∧ (wt_ga z30.2.2.2 111 (Int32.toNatClampNeg z30.2.2.1)).toInt ≤ 13 := wt_Ra1 l34 111 (by decide) (by decide) (Int32.toNatClampNeg z30.2.2.1)
          have k223 := wt_lm1
          exact ⟨rfl, (show 0 ≤ ((0 : Int32)).toInt by omega), (show ((-1 : Int32).toInt = -1 ∨ (0 ≤ (-1 : Int32).toInt ∧ (-1 : Int32).toInt ≤ 337)) by omega)⟩
        · skip
          have bb224 := wt_tn z30.2.2.1
          have bb225 := wt_bd (wt_ga z30.2.2.2 111 (Int32.toNatClampNeg z30.2.2.1))
          have g226 := l35 (Int32.toNatClampNeg z30.2.2.1)
          have g227 : 0 ≤ (wt_ga z30.2.2.2 111 (Int32.toNatClampNeg z30.2.2.1)).toInt ∧ (wt_ga z30.2.2.2 111 (Int32.toNatClampNeg z30.2.2.1)).toInt ≤ 13 := wt_Ra1 l34 111 (by decide) (by decide) (Int32.toNatClampNeg z30.2.2.1)
          show ((wt_ga z30.2.2.2 111 (Int32.toNatClampNeg z30.2.2.1)).toInt - (0 : Int32).toInt + 0).toNat < n
          omega
    · skip
      have k228 : (26 : Int32).toInt = 26 := by decide
      exact ⟨wt_fr.rf, (show 0 ≤ ((0 : Int32)).toInt by omega), ri21, mi23⟩
    · skip
      have k229 : (26 : Int32).toInt = 26 := by decide
      show ((26 : Int32).toInt - (0 : Int32).toInt + 0).toNat < n
      omega
  · skip
    have c230 := wt_nceq h16
    refine wt_T_some ?_
    exact ⟨(wt_fr.tr wt_fr.rf f8 (fun i k h => by (try dsimp only at h); exact (by first | exact h | omega)) (fun i h => h.elim)), ri9, mi11⟩
set_option maxRecDepth 100000 in
set_option maxHeartbeats 4000000 in
theorem wq_md_exchange (n : Nat) (hn : 4294967297 < n) (x1 : Int32) (σ : wt_St) (r0 : wt_RI σ) (m0 : wt_M12 σ) : wt_T (wp_md_exchange n x1 σ) (fun q => wt_fr (fun i k => (i = 108 ∧ k = 0)) (fun i => i = 287 ∨ i = 121 ∨ i = 124 ∨ i = 111) σ q.2 ∧ wt_RI q.2 ∧ wt_M12 q.2) := by
  have bb1 := wt_bd x1
  unfold wp_md_exchange
  obtain ⟨σ2, eσ2⟩ : ∃ z : wt_St, z = wt_sf σ 108 0 (0 : Int32) := ⟨_, rfl⟩
  rw [← eσ2]
  have fσ2 := wt_fr_sf eσ2
  have vσ2 := wt_ceq (wt_v_sf eσ2)
  have k3 : (0 : Int32).toInt = 0 := by decide
  have mσ2 := wt_M_sf m0 eσ2
  have rσ2 := wt_RI_fno r0 eσ2 (Or.inr (by decide +kernel))
  refine wt_T_bi (wq_md_isText n hn x1 σ2 rσ2) (fun r4 h5 => ?_)
  obtain ⟨e6, pp7⟩ := h5
  have bb8 := wt_bd r4.1
  rw [e6]
  have g10 : 0 ≤ (wt_gf σ2 108 39).toInt ∧ (wt_gf σ2 108 39).toInt ≤ 8 := wt_Rf7 rσ2
  have tt11 : (wt_gf σ2 108 39).toInt = (wt_gf σ 108 39).toInt := congrArg Int32.toInt (fσ2.1 108 39 (by (try dsimp only); omega))
  refine wt_T_if (fun h14 => ?_) (fun h14 => ?_)
  · skip
    have c15 := wt_ceq h14
    have k16 : (1 : Int32).toInt = 1 := by decide
    refine wt_T.imp (wq_md_exchange_B19 n hn x1 (1 : Int32) σ2 rσ2 mσ2 (by first | with_reducible assumption | omega)) (fun r17 h18 => ?_)
    have bb19 := wt_bd r17.1
    obtain ⟨f20, ri21, mi22⟩ := h18
    exact ⟨(wt_fr.tr (wt_fr.tr wt_fr.rf fσ2 (fun i k h => by (try dsimp only at h); exact (by first | exact h | omega)) (fun i h => h.elim)) f20 (fun i k h => by (try dsimp only at h); exact (by first | exact h | omega)) (fun i h => by (try dsimp only at h); rcases h with h | h | h | h; exact Or.inl (by first | exact h | omega); exact Or.inr (Or.inl (by first | exact h | omega)); exact Or.inr (Or.inr (Or.inl (by first | exact h | omega))); exact Or.inr (Or.inr (Or.inr (by first | exact h | omega))))), ri21, mi22⟩
  · skip
    have c23 := wt_nceq h14
    refine wt_T.imp (wq_md_exchange_B19 n hn x1 (0 : Int32) σ2 rσ2 mσ2 (by first | with_reducible assumption | omega)) (fun r24 h25 => ?_)
    have bb26 := wt_bd r24.1
    obtain ⟨f27, ri28, mi29⟩ := h25
    exact ⟨(wt_fr.tr (wt_fr.tr wt_fr.rf fσ2 (fun i k h => by (try dsimp only at h); exact (by first | exact h | omega)) (fun i h => h.elim)) f27 (fun i k h => by (try dsimp only at h); exact (by first | exact h | omega)) (fun i h => by (try dsimp only at h); rcases h with h | h | h | h; exact Or.inl (by first | exact h | omega); exact Or.inr (Or.inl (by first | exact h | omega)); exact Or.inr (Or.inr (Or.inl (by first | exact h | omega))); exact Or.inr (Or.inr (Or.inr (by first | exact h | omega))))), ri28, mi29⟩
set_option maxRecDepth 100000 in
set_option maxHeartbeats 4000000 in
theorem wq_md_fault (n : Nat) (hn : 4294967297 < n) (σ : wt_St) (r0 : wt_RI σ) : wt_T (wp_md_fault n σ) (fun q => wt_fr (fun i k => (i = 108 ∧ k = 0)) (fun i => False) σ q.2 ∧ wt_RI q.2) := by
  unfold wp_md_fault
  obtain ⟨σ1, eσ1⟩ : ∃ z : wt_St, z = wt_sf σ 108 0 (0 : Int32) := ⟨_, rfl⟩
  rw [← eσ1]
  have fσ1 := wt_fr_sf eσ1
  have vσ1 := wt_ceq (wt_v_sf eσ1)
  have k2 : (0 : Int32).toInt = 0 := by decide
  have rσ1 := wt_RI_fno r0 eσ1 (Or.inr (by decide +kernel))
  refine wt_T_some ?_
  exact ⟨(wt_fr.tr wt_fr.rf fσ1 (fun i k h => by (try dsimp only at h); exact (by first | exact h | omega)) (fun i h => h.elim)), rσ1⟩
set_option maxRecDepth 100000 in
set_option maxHeartbeats 4000000 in
theorem wq_md_feed (n : Nat) (hn : 4294967297 < n) (x1 : Int32) (x2 : Int32) (x3 : Int32) (x4 : Int32) (x5 : Int32) (σ : wt_St) (r0 : wt_RI σ) : wt_T (wp_md_feed n x1 x2 x3 x4 x5 σ) (fun q => wt_fr (fun i k => (i = 108 ∧ k = 0) ∨ (i = 108 ∧ k = 1)) (fun i => i = 109) σ q.2 ∧ wt_RI q.2 ∧ (((wt_gf σ 108 1).toInt ≤ 480 → q.1.toInt = (wt_gf σ 108 1).toInt + 20 ∧ (wt_gf q.2 108 1).toInt = (wt_gf σ 108 1).toInt + 20) ∧ (480 < (wt_gf σ 108 1).toInt → q.1.toInt = -1 ∧ (wt_gf q.2 108 1).toInt = (wt_gf σ 108 1).toInt))) := by
  have bb1 := wt_bd x1
  have bb2 := wt_bd x2
  have bb3 := wt_bd x3
  have bb4 := wt_bd x4
  have bb5 := wt_bd x5
  unfold wp_md_feed
  obtain ⟨σ6, eσ6⟩ : ∃ z : wt_St, z = wt_sf σ 108 0 (0 : Int32) := ⟨_, rfl⟩
  rw [← eσ6]
  have fσ6 := wt_fr_sf eσ6
  have vσ6 := wt_ceq (wt_v_sf eσ6)
  have k7 : (0 : Int32).toInt = 0 := by decide
  have rσ6 := wt_RI_fno r0 eσ6 (Or.inr (by decide +kernel))
  have g9 : 0 ≤ (wt_gf σ6 108 1).toInt ∧ (wt_gf σ6 108 1).toInt ≤ 500 := wt_Rf0 rσ6
  have tt10 : (wt_gf σ6 108 1).toInt = (wt_gf σ 108 1).toInt := congrArg Int32.toInt (fσ6.1 108 1 (by (try dsimp only); omega))
  have k13 : (20 : Int32).toInt = 20 := by decide
  obtain ⟨j14, j14a, j14b⟩ := wt_addI (wt_gf σ6 108 1) (20 : Int32)
  have k15 : (500 : Int32).toInt = 500 := by decide
  refine wt_T_if (fun h16 => ?_) (fun h16 => ?_)
  · skip
    have c17 := wt_cle h16
    refine wt_T_it (fun s : Int32 × wt_St => wt_fr (fun i k => (i = 108 ∧ k = 1)) (fun i => i = 109) σ6 s.2 ∧ 0 ≤ (s.1).toInt ∧ s.1.toInt ≤ 20 ∧ (wt_gf s.2 108 1).toInt = (wt_gf σ 108 1).toInt + s.1.toInt ∧ (wt_gf σ 108 1).toInt ≤ 480 ∧ wt_RI s.2) (fun s : Int32 × wt_St => ((20 : Int32).toInt - s.1.toInt + 0).toNat) (fun KK18 z19 I20 hKK18 => ?_) _ _ ?_ ?_
    · skip
      obtain ⟨l21, l22, l23, l24, l25, l26⟩ := I20
      unfold wp_md_feed_B23
      have g28 : 0 ≤ (wt_gf z19.2 108 1).toInt ∧ (wt_gf z19.2 108 1).toInt ≤ 500 := wt_Rf0 l26
      have bb29 := wt_bd z19.1
      refine wt_T_if (fun h30 => ?_) (fun h30 => ?_)
      · skip
        have c31 := wt_cle h30
        refine wt_T_some ?_
        exact ⟨(wt_fr.tr (wt_fr.tr wt_fr.rf fσ6 (fun i k h => by (try dsimp only at h); exact Or.inl (by first | exact h | omega)) (fun i h => h.elim)) l21 (fun i k h => by (try dsimp only at h); exact Or.inr (by first | exact h | omega)) (fun i h => by (try dsimp only at h); exact (by first | exact h | omega))), l26, (show (((wt_gf σ 108 1).toInt ≤ 480 → (wt_gf z19.2 108 1).toInt = (wt_gf σ 108 1).toInt + 20 ∧ (wt_gf z19.2 108 1).toInt = (wt_gf σ 108 1).toInt + 20) ∧ (480 < (wt_gf σ 108 1).toInt → (wt_gf z19.2 108 1).toInt = -1 ∧ (wt_gf z19.2 108 1).toInt = (wt_gf σ 108 1).toInt)) from by omega)⟩
      · skip
        have c32 := wt_ncle h30
        have k33 : (4 : Int32).toInt = 4 := by decide
        refine wt_T_if (fun h34 => ?_) (fun h34 => ?_)
        · skip
          have c35 := wt_cle h34
          have k36 : (8 : Int32).toInt = 8 := by decide
          refine wt_T_if (fun h37 => ?_) (fun h37 => ?_)
          · skip
            have c38 := wt_cle h37
            have k39 : (12 : Int32).toInt = 12 := by decide
            refine wt_T_if (fun h40 => ?_) (fun h40 => ?_)
            · skip
              have c41 := wt_cle h40
              have k42 : (16 : Int32).toInt = 16 := by decide
              refine wt_T_if (fun h43 => ?_) (fun h43 => ?_)
              · skip
                have c44 := wt_cle h43
                unfold wp_md_feed_B76
                refine wt_T_gd (wt_ix (by first | with_reducible assumption | omega) (by first | with_reducible assumption | omega)) ?_
                obtain ⟨σ45, eσ45⟩ : ∃ z : wt_St, z = wt_sa z19.2 109 (Int32.toNatClampNeg (wt_gf z19.2 108 1)) ((x5 >>> (((24 : Int32) - ((8 : Int32) * (wt_rem z19.1 (4 : Int32)))) &&& 31)) &&& (255 : Int32)) := ⟨_, rfl⟩
                rw [← eσ45]
                have fσ45 := wt_fr_sa eσ45
                have vσ45 := wt_ceq (wt_v_sa eσ45)
                have bb46 := wt_tn (wt_gf z19.2 108 1)
                have k47 : (24 : Int32).toInt = 24 := by decide
                have bb48 := wt_bd (wt_rem z19.1 (4 : Int32))
                obtain ⟨j49, j49a, j49b⟩ := wt_mulI (8 : Int32) (wt_rem z19.1 (4 : Int32))
                rw [show (8 : Int32).toInt = 8 from by decide] at j49a
                obtain ⟨j50, j50a, j50b⟩ := wt_subI (24 : Int32) ((8 : Int32) * (wt_rem z19.1 (4 : Int32)))
                have k51 : (31 : Int32).toInt = 31 := by decide
                have bb52 := wt_bd (((24 : Int32) - ((8 : Int32) * (wt_rem z19.1 (4 : Int32)))) &&& 31)
                have bb53 := wt_bd (x5 >>> (((24 : Int32) - ((8 : Int32) * (wt_rem z19.1 (4 : Int32)))) &&& 31))
                have k54 : (255 : Int32).toInt = 255 := by decide
                have bb55 := wt_bd ((x5 >>> (((24 : Int32) - ((8 : Int32) * (wt_rem z19.1 (4 : Int32)))) &&& 31)) &&& (255 : Int32))
                have rσ45 := wt_RI_no l26 eσ45 109 110 (by decide +kernel) (by decide) (by decide)
                obtain ⟨σ56, eσ56⟩ : ∃ z : wt_St, z = wt_sf σ45 108 1 ((wt_gf σ45 108 1) + (1 : Int32)) := ⟨_, rfl⟩
                rw [← eσ56]
                have fσ56 := wt_fr_sf eσ56
                have vσ56 := wt_ceq (wt_v_sf eσ56)
                have g58 : 0 ≤ (wt_gf σ45 108 1).toInt ∧ (wt_gf σ45 108 1).toInt ≤ 500 := wt_Rf0 rσ45
                have tt59 : (wt_gf σ45 108 1).toInt = (wt_gf z19.2 108 1).toInt := congrArg Int32.toInt (fσ45.1 108 1 (fun z => z))
                have k60 : (1 : Int32).toInt = 1 := by decide
                obtain ⟨j61, j61a, j61b⟩ := wt_addI (wt_gf σ45 108 1) (1 : Int32)
                have rσ56 := wt_Rm0 rσ45 eσ56 (show 0 ≤ ((wt_gf σ45 108 1) + (1 : Int32)).toInt by omega) (show ((wt_gf σ45 108 1) + (1 : Int32)).toInt ≤ 500 by omega)
                obtain ⟨j62, j62a, j62b⟩ := wt_addI z19.1 (1 : Int32)
                have g64 : 0 ≤ (wt_gf σ56 108 1).toInt ∧ (wt_gf σ56 108 1).toInt ≤ 500 := wt_Rf0 rσ56
                refine hKK18 _ ⟨(wt_fr.tr (wt_fr.tr (wt_fr.tr wt_fr.rf l21 (fun i k h => by (try dsimp only at h); exact (by first | exact h | omega)) (fun i h => by (try dsimp only at h); exact (by first | exact h | omega))) fσ45 (fun i k h => h.elim) (fun i h => by (try dsimp only at h); exact (by first | exact h | omega))) fσ56 (fun i k h => by (try dsimp only at h); exact (by first | exact h | omega)) (fun i h => h.elim)), (wt_nn (B := (20 : Int32)) (by first | with_reducible assumption | omega) (by first | with_reducible assumption | omega)), (show (z19.1 + (1 : Int32)).toInt ≤ 20 by omega), (show (wt_gf σ56 108 1).toInt = (wt_gf σ 108 1).toInt + (z19.1 + (1 : Int32)).toInt by omega), (show (wt_gf σ 108 1).toInt ≤ 480 by omega), rσ56⟩ ?_
                show ((20 : Int32).toInt - (z19.1 + (1 : Int32)).toInt + 0).toNat < ((20 : Int32).toInt - z19.1.toInt + 0).toNat
                exact wt_mu (by first | with_reducible assumption | omega) (by first | with_reducible assumption | omega)
              · skip
                have c65 := wt_ncle h43
                unfold wp_md_feed_B76
                refine wt_T_gd (wt_ix (by first | with_reducible assumption | omega) (by first | with_reducible assumption | omega)) ?_
                obtain ⟨σ66, eσ66⟩ : ∃ z : wt_St, z = wt_sa z19.2 109 (Int32.toNatClampNeg (wt_gf z19.2 108 1)) ((x4 >>> (((24 : Int32) - ((8 : Int32) * (wt_rem z19.1 (4 : Int32)))) &&& 31)) &&& (255 : Int32)) := ⟨_, rfl⟩
                rw [← eσ66]
                have fσ66 := wt_fr_sa eσ66
                have vσ66 := wt_ceq (wt_v_sa eσ66)
                have bb67 := wt_tn (wt_gf z19.2 108 1)
                have k68 : (24 : Int32).toInt = 24 := by decide
                have bb69 := wt_bd (wt_rem z19.1 (4 : Int32))
                obtain ⟨j70, j70a, j70b⟩ := wt_mulI (8 : Int32) (wt_rem z19.1 (4 : Int32))
                rw [show (8 : Int32).toInt = 8 from by decide] at j70a
                obtain ⟨j71, j71a, j71b⟩ := wt_subI (24 : Int32) ((8 : Int32) * (wt_rem z19.1 (4 : Int32)))
                have k72 : (31 : Int32).toInt = 31 := by decide
                have bb73 := wt_bd (((24 : Int32) - ((8 : Int32) * (wt_rem z19.1 (4 : Int32)))) &&& 31)
                have bb74 := wt_bd (x4 >>> (((24 : Int32) - ((8 : Int32) * (wt_rem z19.1 (4 : Int32)))) &&& 31))
                have k75 : (255 : Int32).toInt = 255 := by decide
                have bb76 := wt_bd ((x4 >>> (((24 : Int32) - ((8 : Int32) * (wt_rem z19.1 (4 : Int32)))) &&& 31)) &&& (255 : Int32))
                have rσ66 := wt_RI_no l26 eσ66 109 110 (by decide +kernel) (by decide) (by decide)
                obtain ⟨σ77, eσ77⟩ : ∃ z : wt_St, z = wt_sf σ66 108 1 ((wt_gf σ66 108 1) + (1 : Int32)) := ⟨_, rfl⟩
                rw [← eσ77]
                have fσ77 := wt_fr_sf eσ77
                have vσ77 := wt_ceq (wt_v_sf eσ77)
                have g79 : 0 ≤ (wt_gf σ66 108 1).toInt ∧ (wt_gf σ66 108 1).toInt ≤ 500 := wt_Rf0 rσ66
                have tt80 : (wt_gf σ66 108 1).toInt = (wt_gf z19.2 108 1).toInt := congrArg Int32.toInt (fσ66.1 108 1 (fun z => z))
                have k81 : (1 : Int32).toInt = 1 := by decide
                obtain ⟨j82, j82a, j82b⟩ := wt_addI (wt_gf σ66 108 1) (1 : Int32)
                have rσ77 := wt_Rm0 rσ66 eσ77 (show 0 ≤ ((wt_gf σ66 108 1) + (1 : Int32)).toInt by omega) (show ((wt_gf σ66 108 1) + (1 : Int32)).toInt ≤ 500 by omega)
                obtain ⟨j83, j83a, j83b⟩ := wt_addI z19.1 (1 : Int32)
                have g85 : 0 ≤ (wt_gf σ77 108 1).toInt ∧ (wt_gf σ77 108 1).toInt ≤ 500 := wt_Rf0 rσ77
                refine hKK18 _ ⟨(wt_fr.tr (wt_fr.tr (wt_fr.tr wt_fr.rf l21 (fun i k h => by (try dsimp only at h); exact (by first | exact h | omega)) (fun i h => by (try dsimp only at h); exact (by first | exact h | omega))) fσ66 (fun i k h => h.elim) (fun i h => by (try dsimp only at h); exact (by first | exact h | omega))) fσ77 (fun i k h => by (try dsimp only at h); exact (by first | exact h | omega)) (fun i h => h.elim)), (wt_nn (B := (20 : Int32)) (by first | with_reducible assumption | omega) (by first | with_reducible assumption | omega)), (show (z19.1 + (1 : Int32)).toInt ≤ 20 by omega), (show (wt_gf σ77 108 1).toInt = (wt_gf σ 108 1).toInt + (z19.1 + (1 : Int32)).toInt by omega), (show (wt_gf σ 108 1).toInt ≤ 480 by omega), rσ77⟩ ?_
                show ((20 : Int32).toInt - (z19.1 + (1 : Int32)).toInt + 0).toNat < ((20 : Int32).toInt - z19.1.toInt + 0).toNat
                exact wt_mu (by first | with_reducible assumption | omega) (by first | with_reducible assumption | omega)
            · skip
              have c86 := wt_ncle h40
              unfold wp_md_feed_B76
              refine wt_T_gd (wt_ix (by first | with_reducible assumption | omega) (by first | with_reducible assumption | omega)) ?_
              obtain ⟨σ87, eσ87⟩ : ∃ z : wt_St, z = wt_sa z19.2 109 (Int32.toNatClampNeg (wt_gf z19.2 108 1)) ((x3 >>> (((24 : Int32) - ((8 : Int32) * (wt_rem z19.1 (4 : Int32)))) &&& 31)) &&& (255 : Int32)) := ⟨_, rfl⟩
              rw [← eσ87]
              have fσ87 := wt_fr_sa eσ87
              have vσ87 := wt_ceq (wt_v_sa eσ87)
              have bb88 := wt_tn (wt_gf z19.2 108 1)
              have k89 : (24 : Int32).toInt = 24 := by decide
              have bb90 := wt_bd (wt_rem z19.1 (4 : Int32))
              obtain ⟨j91, j91a, j91b⟩ := wt_mulI (8 : Int32) (wt_rem z19.1 (4 : Int32))
              rw [show (8 : Int32).toInt = 8 from by decide] at j91a
              obtain ⟨j92, j92a, j92b⟩ := wt_subI (24 : Int32) ((8 : Int32) * (wt_rem z19.1 (4 : Int32)))
              have k93 : (31 : Int32).toInt = 31 := by decide
              have bb94 := wt_bd (((24 : Int32) - ((8 : Int32) * (wt_rem z19.1 (4 : Int32)))) &&& 31)
              have bb95 := wt_bd (x3 >>> (((24 : Int32) - ((8 : Int32) * (wt_rem z19.1 (4 : Int32)))) &&& 31))
              have k96 : (255 : Int32).toInt = 255 := by decide
              have bb97 := wt_bd ((x3 >>> (((24 : Int32) - ((8 : Int32) * (wt_rem z19.1 (4 : Int32)))) &&& 31)) &&& (255 : Int32))
              have rσ87 := wt_RI_no l26 eσ87 109 110 (by decide +kernel) (by decide) (by decide)
              obtain ⟨σ98, eσ98⟩ : ∃ z : wt_St, z = wt_sf σ87 108 1 ((wt_gf σ87 108 1) + (1 : Int32)) := ⟨_, rfl⟩
              rw [← eσ98]
              have fσ98 := wt_fr_sf eσ98
              have vσ98 := wt_ceq (wt_v_sf eσ98)
              have g100 : 0 ≤ (wt_gf σ87 108 1).toInt ∧ (wt_gf σ87 108 1).toInt ≤ 500 := wt_Rf0 rσ87
              have tt101 : (wt_gf σ87 108 1).toInt = (wt_gf z19.2 108 1).toInt := congrArg Int32.toInt (fσ87.1 108 1 (fun z => z))
              have k102 : (1 : Int32).toInt = 1 := by decide
              obtain ⟨j103, j103a, j103b⟩ := wt_addI (wt_gf σ87 108 1) (1 : Int32)
              have rσ98 := wt_Rm0 rσ87 eσ98 (show 0 ≤ ((wt_gf σ87 108 1) + (1 : Int32)).toInt by omega) (show ((wt_gf σ87 108 1) + (1 : Int32)).toInt ≤ 500 by omega)
              obtain ⟨j104, j104a, j104b⟩ := wt_addI z19.1 (1 : Int32)
              have g106 : 0 ≤ (wt_gf σ98 108 1).toInt ∧ (wt_gf σ98 108 1).toInt ≤ 500 := wt_Rf0 rσ98
              refine hKK18 _ ⟨(wt_fr.tr (wt_fr.tr (wt_fr.tr wt_fr.rf l21 (fun i k h => by (try dsimp only at h); exact (by first | exact h | omega)) (fun i h => by (try dsimp only at h); exact (by first | exact h | omega))) fσ87 (fun i k h => h.elim) (fun i h => by (try dsimp only at h); exact (by first | exact h | omega))) fσ98 (fun i k h => by (try dsimp only at h); exact (by first | exact h | omega)) (fun i h => h.elim)), (wt_nn (B := (20 : Int32)) (by first | with_reducible assumption | omega) (by first | with_reducible assumption | omega)), (show (z19.1 + (1 : Int32)).toInt ≤ 20 by omega), (show (wt_gf σ98 108 1).toInt = (wt_gf σ 108 1).toInt + (z19.1 + (1 : Int32)).toInt by omega), (show (wt_gf σ 108 1).toInt ≤ 480 by omega), rσ98⟩ ?_
              show ((20 : Int32).toInt - (z19.1 + (1 : Int32)).toInt + 0).toNat < ((20 : Int32).toInt - z19.1.toInt + 0).toNat
              exact wt_mu (by first | with_reducible assumption | omega) (by first | with_reducible assumption | omega)
          · skip
            have c107 := wt_ncle h37
            unfold wp_md_feed_B76
            refine wt_T_gd (wt_ix (by first | with_reducible assumption | omega) (by first | with_reducible assumption | omega)) ?_
            obtain ⟨σ108, eσ108⟩ : ∃ z : wt_St, z = wt_sa z19.2 109 (Int32.toNatClampNeg (wt_gf z19.2 108 1)) ((x2 >>> (((24 : Int32) - ((8 : Int32) * (wt_rem z19.1 (4 : Int32)))) &&& 31)) &&& (255 : Int32)) := ⟨_, rfl⟩
            rw [← eσ108]
            have fσ108 := wt_fr_sa eσ108
            have vσ108 := wt_ceq (wt_v_sa eσ108)
            have bb109 := wt_tn (wt_gf z19.2 108 1)
            have k110 : (24 : Int32).toInt = 24 := by decide
            have bb111 := wt_bd (wt_rem z19.1 (4 : Int32))
            obtain ⟨j112, j112a, j112b⟩ := wt_mulI (8 : Int32) (wt_rem z19.1 (4 : Int32))
            rw [show (8 : Int32).toInt = 8 from by decide] at j112a
            obtain ⟨j113, j113a, j113b⟩ := wt_subI (24 : Int32) ((8 : Int32) * (wt_rem z19.1 (4 : Int32)))
            have k114 : (31 : Int32).toInt = 31 := by decide
            have bb115 := wt_bd (((24 : Int32) - ((8 : Int32) * (wt_rem z19.1 (4 : Int32)))) &&& 31)
            have bb116 := wt_bd (x2 >>> (((24 : Int32) - ((8 : Int32) * (wt_rem z19.1 (4 : Int32)))) &&& 31))
            have k117 : (255 : Int32).toInt = 255 := by decide
            have bb118 := wt_bd ((x2 >>> (((24 : Int32) - ((8 : Int32) * (wt_rem z19.1 (4 : Int32)))) &&& 31)) &&& (255 : Int32))
            have rσ108 := wt_RI_no l26 eσ108 109 110 (by decide +kernel) (by decide) (by decide)
            obtain ⟨σ119, eσ119⟩ : ∃ z : wt_St, z = wt_sf σ108 108 1 ((wt_gf σ108 108 1) + (1 : Int32)) := ⟨_, rfl⟩
            rw [← eσ119]
            have fσ119 := wt_fr_sf eσ119
            have vσ119 := wt_ceq (wt_v_sf eσ119)
            have g121 : 0 ≤ (wt_gf σ108 108 1).toInt ∧ (wt_gf σ108 108 1).toInt ≤ 500 := wt_Rf0 rσ108
            have tt122 : (wt_gf σ108 108 1).toInt = (wt_gf z19.2 108 1).toInt := congrArg Int32.toInt (fσ108.1 108 1 (fun z => z))
            have k123 : (1 : Int32).toInt = 1 := by decide
            obtain ⟨j124, j124a, j124b⟩ := wt_addI (wt_gf σ108 108 1) (1 : Int32)
            have rσ119 := wt_Rm0 rσ108 eσ119 (show 0 ≤ ((wt_gf σ108 108 1) + (1 : Int32)).toInt by omega) (show ((wt_gf σ108 108 1) + (1 : Int32)).toInt ≤ 500 by omega)
            obtain ⟨j125, j125a, j125b⟩ := wt_addI z19.1 (1 : Int32)
            have g127 : 0 ≤ (wt_gf σ119 108 1).toInt ∧ (wt_gf σ119 108 1).toInt ≤ 500 := wt_Rf0 rσ119
            refine hKK18 _ ⟨(wt_fr.tr (wt_fr.tr (wt_fr.tr wt_fr.rf l21 (fun i k h => by (try dsimp only at h); exact (by first | exact h | omega)) (fun i h => by (try dsimp only at h); exact (by first | exact h | omega))) fσ108 (fun i k h => h.elim) (fun i h => by (try dsimp only at h); exact (by first | exact h | omega))) fσ119 (fun i k h => by (try dsimp only at h); exact (by first | exact h | omega)) (fun i h => h.elim)), (wt_nn (B := (20 : Int32)) (by first | with_reducible assumption | omega) (by first | with_reducible assumption | omega)), (show (z19.1 + (1 : Int32)).toInt ≤ 20 by omega), (show (wt_gf σ119 108 1).toInt = (wt_gf σ 108 1).toInt + (z19.1 + (1 : Int32)).toInt by omega), (show (wt_gf σ 108 1).toInt ≤ 480 by omega), rσ119⟩ ?_
            show ((20 : Int32).toInt - (z19.1 + (1 : Int32)).toInt + 0).toNat < ((20 : Int32).toInt - z19.1.toInt + 0).toNat
            exact wt_mu (by first | with_reducible assumption | omega) (by first | with_reducible assumption | omega)
        · skip
          have c128 := wt_ncle h34
          unfold wp_md_feed_B76
          refine wt_T_gd (wt_ix (by first | with_reducible assumption | omega) (by first | with_reducible assumption | omega)) ?_
          obtain ⟨σ129, eσ129⟩ : ∃ z : wt_St, z = wt_sa z19.2 109 (Int32.toNatClampNeg (wt_gf z19.2 108 1)) ((x1 >>> (((24 : Int32) - ((8 : Int32) * (wt_rem z19.1 (4 : Int32)))) &&& 31)) &&& (255 : Int32)) := ⟨_, rfl⟩
          rw [← eσ129]
          have fσ129 := wt_fr_sa eσ129
          have vσ129 := wt_ceq (wt_v_sa eσ129)
          have bb130 := wt_tn (wt_gf z19.2 108 1)
          have k131 : (24 : Int32).toInt = 24 := by decide
          have k132 : (8 : Int32).toInt = 8 := by decide
          have bb133 := wt_bd (wt_rem z19.1 (4 : Int32))
          obtain ⟨j134, j134a, j134b⟩ := wt_mulI (8 : Int32) (wt_rem z19.1 (4 : Int32))
          rw [show (8 : Int32).toInt = 8 from by decide] at j134a
          obtain ⟨j135, j135a, j135b⟩ := wt_subI (24 : Int32) ((8 : Int32) * (wt_rem z19.1 (4 : Int32)))
          have k136 : (31 : Int32).toInt = 31 := by decide
          have bb137 := wt_bd (((24 : Int32) - ((8 : Int32) * (wt_rem z19.1 (4 : Int32)))) &&& 31)
          have bb138 := wt_bd (x1 >>> (((24 : Int32) - ((8 : Int32) * (wt_rem z19.1 (4 : Int32)))) &&& 31))
          have k139 : (255 : Int32).toInt = 255 := by decide
          have bb140 := wt_bd ((x1 >>> (((24 : Int32) - ((8 : Int32) * (wt_rem z19.1 (4 : Int32)))) &&& 31)) &&& (255 : Int32))
          have rσ129 := wt_RI_no l26 eσ129 109 110 (by decide +kernel) (by decide) (by decide)
          obtain ⟨σ141, eσ141⟩ : ∃ z : wt_St, z = wt_sf σ129 108 1 ((wt_gf σ129 108 1) + (1 : Int32)) := ⟨_, rfl⟩
          rw [← eσ141]
          have fσ141 := wt_fr_sf eσ141
          have vσ141 := wt_ceq (wt_v_sf eσ141)
          have g143 : 0 ≤ (wt_gf σ129 108 1).toInt ∧ (wt_gf σ129 108 1).toInt ≤ 500 := wt_Rf0 rσ129
          have tt144 : (wt_gf σ129 108 1).toInt = (wt_gf z19.2 108 1).toInt := congrArg Int32.toInt (fσ129.1 108 1 (fun z => z))
          have k145 : (1 : Int32).toInt = 1 := by decide
          obtain ⟨j146, j146a, j146b⟩ := wt_addI (wt_gf σ129 108 1) (1 : Int32)
          have rσ141 := wt_Rm0 rσ129 eσ141 (show 0 ≤ ((wt_gf σ129 108 1) + (1 : Int32)).toInt by omega) (show ((wt_gf σ129 108 1) + (1 : Int32)).toInt ≤ 500 by omega)
          obtain ⟨j147, j147a, j147b⟩ := wt_addI z19.1 (1 : Int32)
          have g149 : 0 ≤ (wt_gf σ141 108 1).toInt ∧ (wt_gf σ141 108 1).toInt ≤ 500 := wt_Rf0 rσ141
          refine hKK18 _ ⟨(wt_fr.tr (wt_fr.tr (wt_fr.tr wt_fr.rf l21 (fun i k h => by (try dsimp only at h); exact (by first | exact h | omega)) (fun i h => by (try dsimp only at h); exact (by first | exact h | omega))) fσ129 (fun i k h => h.elim) (fun i h => by (try dsimp only at h); exact (by first | exact h | omega))) fσ141 (fun i k h => by (try dsimp only at h); exact (by first | exact h | omega)) (fun i h => h.elim)), (wt_nn (B := (20 : Int32)) (by first | with_reducible assumption | omega) (by first | with_reducible assumption | omega)), (show (z19.1 + (1 : Int32)).toInt ≤ 20 by omega), (show (wt_gf σ141 108 1).toInt = (wt_gf σ 108 1).toInt + (z19.1 + (1 : Int32)).toInt by omega), (show (wt_gf σ 108 1).toInt ≤ 480 by omega), rσ141⟩ ?_
          show ((20 : Int32).toInt - (z19.1 + (1 : Int32)).toInt + 0).toNat < ((20 : Int32).toInt - z19.1.toInt + 0).toNat
          exact wt_mu (by first | with_reducible assumption | omega) (by first | with_reducible assumption | omega)
    · skip
      exact ⟨wt_fr.rf, (show 0 ≤ ((0 : Int32)).toInt by omega), (show (0 : Int32).toInt ≤ 20 by omega), (show (wt_gf σ6 108 1).toInt = (wt_gf σ 108 1).toInt + (0 : Int32).toInt by omega), (show (wt_gf σ 108 1).toInt ≤ 480 by omega), rσ6⟩
    · skip
      show ((20 : Int32).toInt - (0 : Int32).toInt + 0).toNat < n
      omega
  · skip
    have c150 := wt_ncle h16
    refine wt_T_some ?_
    have k151 := wt_lm1
    exact ⟨(wt_fr.tr wt_fr.rf fσ6 (fun i k h => by (try dsimp only at h); exact Or.inl (by first | exact h | omega)) (fun i h => h.elim)), rσ6, (show (((wt_gf σ 108 1).toInt ≤ 480 → (-1 : Int32).toInt = (wt_gf σ 108 1).toInt + 20 ∧ (wt_gf σ6 108 1).toInt = (wt_gf σ 108 1).toInt + 20) ∧ (480 < (wt_gf σ 108 1).toInt → (-1 : Int32).toInt = -1 ∧ (wt_gf σ6 108 1).toInt = (wt_gf σ 108 1).toInt)) from by omega)⟩
set_option maxRecDepth 100000 in
set_option maxHeartbeats 4000000 in
theorem wq_md_isOf (n : Nat) (hn : 4294967297 < n) (x1 : Int32) (x2 : Int32) (x3 : Int32) (σ : wt_St) (r0 : wt_RI σ) (p0 : 0 ≤ x1.toInt) (p1 : x1.toInt ≤ 60) (p2 : 0 ≤ x2.toInt) (p3 : x2.toInt ≤ 7) (p4 : 0 ≤ x3.toInt) (p5 : x3.toInt ≤ 11) : wt_T (wp_md_isOf n x1 x2 x3 σ) (fun q => q.2 = σ) := by
  have bb1 := wt_bd x1
  have bb2 := wt_bd x2
  have bb3 := wt_bd x3
  unfold wp_md_isOf
  have k0 : (0 : Int32).toInt = 0 := by decide
  refine wt_T_gd (wt_ix (by first | with_reducible assumption | omega) (by first | with_reducible assumption | omega)) ?_
  refine wt_T_gd (wt_ix (by first | with_reducible assumption | omega) (by first | with_reducible assumption | omega)) ?_
  refine wt_T_gd (wt_ix (by first | with_reducible assumption | omega) (by first | with_reducible assumption | omega)) ?_
  have bb4 := wt_tn x2
  have bb5 := wt_tn x3
  have g7 : 0 ≤ (wt_ga σ (255 + (Int32.toNatClampNeg x2)) (Int32.toNatClampNeg x3)).toInt ∧ (wt_ga σ (255 + (Int32.toNatClampNeg x2)) (Int32.toNatClampNeg x3)).toInt ≤ 59 := wt_Ra10 r0 (255 + (Int32.toNatClampNeg x2)) (show 255 ≤ 255 + (Int32.toNatClampNeg x2) by omega) (show 255 + (Int32.toNatClampNeg x2) < 263 by omega) (Int32.toNatClampNeg x3)
  refine wt_T_gd (wt_ix (by first | with_reducible assumption | omega) (by first | with_reducible assumption | omega)) ?_
  have bb8 := wt_tn x1
  have bb9 := wt_bd (wt_ga σ 130 (Int32.toNatClampNeg x1))
  have bb10 := wt_tn (wt_ga σ (255 + (Int32.toNatClampNeg x2)) (Int32.toNatClampNeg x3))
  have bb11 := wt_bd (wt_ga σ 130 (Int32.toNatClampNeg (wt_ga σ (255 + (Int32.toNatClampNeg x2)) (Int32.toNatClampNeg x3))))
  refine wt_T_if (fun h12 => ?_) (fun h12 => ?_)
  · skip
    have c13 := wt_ceq h12
    refine wt_T_some ?_
    exact rfl
  · skip
    have c14 := wt_nceq h12
    refine wt_T_some ?_
    exact rfl
set_option maxRecDepth 100000 in
set_option maxHeartbeats 4000000 in
theorem wq_md_mayFollow (n : Nat) (hn : 4294967297 < n) (x1 : Int32) (x2 : Int32) (σ : wt_St) (r0 : wt_RI σ) (p0 : 0 ≤ x1.toInt) (p1 : x1.toInt ≤ 59) (p2 : 0 ≤ x2.toInt) (p3 : x2.toInt ≤ 59) : wt_T (wp_md_mayFollow n x1 x2 σ) (fun q => q.2 = σ) := by
  have bb1 := wt_bd x1
  have bb2 := wt_bd x2
  unfold wp_md_mayFollow
  have k0 : (0 : Int32).toInt = 0 := by decide
  refine wt_T_gd (wt_ix (by first | with_reducible assumption | omega) (by first | with_reducible assumption | omega)) ?_
  have bb3 := wt_tn x1
  have g5 : 0 ≤ (wt_ga σ 128 (Int32.toNatClampNeg x1)).toInt ∧ (wt_ga σ 128 (Int32.toNatClampNeg x1)).toInt ≤ 3 := wt_Ra6 r0 128 (by decide) (by decide) (Int32.toNatClampNeg x1)
  refine wt_T_gd (wt_ix (by first | with_reducible assumption | omega) (by first | with_reducible assumption | omega)) ?_
  refine wt_T_gd (wt_ix (by first | with_reducible assumption | omega) (by first | with_reducible assumption | omega)) ?_
  have bb6 := wt_tn (wt_ga σ 128 (Int32.toNatClampNeg x1))
  have bb7 := wt_bd (wt_ga σ 119 (Int32.toNatClampNeg (wt_ga σ 128 (Int32.toNatClampNeg x1))))
  have bb8 := wt_tn x2
  have g10 : 0 ≤ (wt_ga σ 128 (Int32.toNatClampNeg x2)).toInt ∧ (wt_ga σ 128 (Int32.toNatClampNeg x2)).toInt ≤ 3 := wt_Ra6 r0 128 (by decide) (by decide) (Int32.toNatClampNeg x2)
  have k11 : (31 : Int32).toInt = 31 := by decide
  have bb12 := wt_bd ((wt_ga σ 128 (Int32.toNatClampNeg x2)) &&& 31)
  have bb13 := wt_bd ((wt_ga σ 119 (Int32.toNatClampNeg (wt_ga σ 128 (Int32.toNatClampNeg x1)))) >>> ((wt_ga σ 128 (Int32.toNatClampNeg x2)) &&& 31))
  have k14 : (1 : Int32).toInt = 1 := by decide
  have bb15 := wt_bd (((wt_ga σ 119 (Int32.toNatClampNeg (wt_ga σ 128 (Int32.toNatClampNeg x1)))) >>> ((wt_ga σ 128 (Int32.toNatClampNeg x2)) &&& 31)) &&& (1 : Int32))
  refine wt_T_if (fun h16 => ?_) (fun h16 => ?_)
  · skip
    have c17 := wt_ceq h16
    refine wt_T_some ?_
    exact rfl
  · skip
    have c18 := wt_nceq h16
    refine wt_T_some ?_
    exact rfl
set_option maxRecDepth 100000 in
set_option maxHeartbeats 4000000 in
theorem wq_md_priceOf (n : Nat) (hn : 4294967297 < n) (x1 : Int32) (σ : wt_St) (r0 : wt_RI σ) (p0 : 0 ≤ x1.toInt) (p1 : x1.toInt ≤ 59) : wt_T (wp_md_priceOf n x1 σ) (fun q => q.2 = σ) := by
  have bb1 := wt_bd x1
  unfold wp_md_priceOf
  have k7 : (0 : Int32).toInt = 0 := by decide
  refine wt_T_it (fun s : Int32 × Int32 × wt_St => s.2.2 = σ ∧ 0 ≤ (s.2.1).toInt) (fun s : Int32 × Int32 × wt_St => ((wt_ga s.2.2 126 (Int32.toNatClampNeg x1)).toInt - s.2.1.toInt + 0).toNat) (fun KK2 z3 I4 hKK2 => ?_) _ _ ?_ ?_
  · skip
    obtain ⟨l5, l6⟩ := I4
    unfold wp_md_priceOf_B4
    rw [l5]
    have bb8 := wt_tn x1
    have g10 : 0 ≤ (wt_ga σ 126 (Int32.toNatClampNeg x1)).toInt ∧ (wt_ga σ 126 (Int32.toNatClampNeg x1)).toInt ≤ 9 := wt_Ra5 r0 126 (by decide) (by decide) (Int32.toNatClampNeg x1)
    have bb11 := wt_bd z3.2.1
    refine wt_T_gd (wt_ix (by first | with_reducible assumption | omega) (by first | with_reducible assumption | omega)) ?_
    refine wt_T_if (fun h12 => ?_) (fun h12 => ?_)
    · skip
      have c13 := wt_cle h12
      refine wt_T_some ?_
      exact rfl
    · skip
      have c14 := wt_ncle h12
      refine wt_T_gd (wt_ix (by first | with_reducible assumption | omega) (by first | with_reducible assumption | omega)) ?_
      refine wt_T_gd (wt_ix (by first | with_reducible assumption | omega) (by first | with_reducible assumption | omega)) ?_
      have bb15 := wt_tn z3.2.1
      have g17 : 0 ≤ (wt_ga σ (193 + (Int32.toNatClampNeg x1)) (Int32.toNatClampNeg z3.2.1)).toInt ∧ (wt_ga σ (193 + (Int32.toNatClampNeg x1)) (Int32.toNatClampNeg z3.2.1)).toInt ≤ 25 := wt_Ra8 r0 (193 + (Int32.toNatClampNeg x1)) (show 193 ≤ 193 + (Int32.toNatClampNeg x1) by omega) (show 193 + (Int32.toNatClampNeg x1) < 253 by omega) (Int32.toNatClampNeg z3.2.1)
      refine wt_T_gd (wt_ix (by first | with_reducible assumption | omega) (by first | with_reducible assumption | omega)) ?_
      have bb18 := wt_bd z3.1
      have bb19 := wt_tn (wt_ga σ (193 + (Int32.toNatClampNeg x1)) (Int32.toNatClampNeg z3.2.1))
      have g21 : 0 ≤ (wt_ga σ 115 (Int32.toNatClampNeg (wt_ga σ (193 + (Int32.toNatClampNeg x1)) (Int32.toNatClampNeg z3.2.1)))).toInt ∧ (wt_ga σ 115 (Int32.toNatClampNeg (wt_ga σ (193 + (Int32.toNatClampNeg x1)) (Int32.toNatClampNeg z3.2.1)))).toInt ≤ 99 := wt_Ra18 r0 115 (by decide) (by decide) (Int32.toNatClampNeg (wt_ga σ (193 + (Int32.toNatClampNeg x1)) (Int32.toNatClampNeg z3.2.1)))
      obtain ⟨j22, j22a, j22b⟩ := wt_addI z3.1 (wt_ga σ 115 (Int32.toNatClampNeg (wt_ga σ (193 + (Int32.toNatClampNeg x1)) (Int32.toNatClampNeg z3.2.1))))
      refine hKK2 _ ⟨rfl, (wt_nn (B := wt_ga z3.2.2 126 (Int32.toNatClampNeg x1)) (by first | with_reducible assumption | omega) (by first | (rw [l5]; omega) | (rw [l5]; done) | omega))⟩ ?_
      show ((wt_ga σ 126 (Int32.toNatClampNeg x1)).toInt - (z3.2.1 + (1 : Int32)).toInt + 0).toNat < ((wt_ga z3.2.2 126 (Int32.toNatClampNeg x1)).toInt - z3.2.1.toInt + 0).toNat
      exact wt_mu (by first | (rw [l5]; omega) | (rw [l5]; done) | omega) (by first | (rw [l5]; omega) | (rw [l5]; done) | omega)
  · skip
    have bb23 := wt_tn x1
    have g25 : 0 ≤ (wt_ga σ 126 (Int32.toNatClampNeg x1)).toInt ∧ (wt_ga σ 126 (Int32.toNatClampNeg x1)).toInt ≤ 9 := wt_Ra5 r0 126 (by decide) (by decide) (Int32.toNatClampNeg x1)
    exact ⟨rfl, (show 0 ≤ ((0 : Int32)).toInt by omega)⟩
  · skip
    have bb26 := wt_tn x1
    have g28 : 0 ≤ (wt_ga σ 126 (Int32.toNatClampNeg x1)).toInt ∧ (wt_ga σ 126 (Int32.toNatClampNeg x1)).toInt ≤ 9 := wt_Ra5 r0 126 (by decide) (by decide) (Int32.toNatClampNeg x1)
    show ((wt_ga σ 126 (Int32.toNatClampNeg x1)).toInt - (0 : Int32).toInt + 0).toNat < n
    omega
set_option maxRecDepth 100000 in
set_option maxHeartbeats 4000000 in
theorem wq_md_tries_b (n : Nat) (hn : 4294967297 < n) (R : Int32 × Int32 × Int32 × Int32 × wt_St → Option (wt_St)) (x1 : Int32) (x2 : Int32) (x3 : Int32) (x4 : Int32) (σ : wt_St) (r0 : wt_RI σ) (p0 : 0 ≤ x1.toInt) (p1 : x1.toInt ≤ 7) (p2 : 0 ≤ x2.toInt) (p3 : x2.toInt ≤ (wt_ga σ 253 (Int32.toNatClampNeg x1)).toInt) (hR : ∀ z : Int32 × Int32 × Int32 × Int32 × wt_St, wt_RI z.2.2.2.2 → z.1 = x1 → 0 ≤ z.2.1.toInt → z.2.1.toInt ≤ (wt_ga z.2.2.2.2 253 (Int32.toNatClampNeg x1)).toInt → (12 - z.2.1.toInt).toNat < (12 - x2.toInt).toNat → wt_T (R z) (fun q => wt_fr (fun i k => (i = 108 ∧ k = 60)) (fun i => i = 287 ∨ i = 318 ∨ i = 319) z.2.2.2.2 q ∧ wt_RI q)) : wt_T (wp_md_tries_b n R x1 x2 x3 x4 σ) (fun q => wt_fr (fun i k => (i = 108 ∧ k = 60)) (fun i => i = 287 ∨ i = 318 ∨ i = 319) σ q ∧ wt_RI q) := by
  have bb1 := wt_bd x1
  have bb2 := wt_bd x2
  have bb3 := wt_bd x3
  have bb4 := wt_bd x4
  have bb5 := wt_tn x1
  have g7 : 0 ≤ (wt_ga σ 253 (Int32.toNatClampNeg x1)).toInt ∧ (wt_ga σ 253 (Int32.toNatClampNeg x1)).toInt ≤ 12 := wt_Ra9 r0 253 (by decide) (by decide) (Int32.toNatClampNeg x1)
  unfold wp_md_tries_b
  have bb8 := wt_bd (wt_gf σ 108 60)
  refine wt_T_if (fun h9 => ?_) (fun h9 => ?_)
  · skip
    have c10 := wt_ceq h9
    rw [wt_lm1] at c10
    unfold wp_md_tries_B18
    have k0 : (0 : Int32).toInt = 0 := by decide
    refine wt_T_gd (wt_ix (by first | with_reducible assumption | omega) (by first | with_reducible assumption | omega)) ?_
    refine wt_T_if (fun h11 => ?_) (fun h11 => ?_)
    · skip
      have c12 := wt_ceq h11
      refine wt_T_bi (wq_md_needsNone n hn σ r0) (fun r13 h14 => ?_)
      obtain ⟨f15, ri16⟩ := h14
      refine wt_T_it (fun s : Int32 × wt_St => wt_fr (fun i k => False) (fun i => i = 287) r13 s.2 ∧ 0 ≤ (s.1).toInt ∧ wt_RI s.2) (fun s : Int32 × wt_St => (x2.toInt - s.1.toInt + 0).toNat) (fun KK17 z18 I19 hKK17 => ?_) _ _ ?_ ?_
      · skip
        obtain ⟨l20, l21, l22⟩ := I19
        unfold wp_md_tries_B35
        have bb23 := wt_bd z18.1
        refine wt_T_if (fun h24 => ?_) (fun h24 => ?_)
        · skip
          have c25 := wt_cle h24
          refine wt_T_bi (wq_md_lacking n hn x3 z18.2 l22) (fun r26 h27 => ?_)
          obtain ⟨e28, pp29⟩ := h27
          have bb30 := wt_bd r26.1
          rw [e28]
          refine wt_T_if (fun h31 => ?_) (fun h31 => ?_)
          · skip
            have c32 := wt_ceq h31
            rw [wt_lm1] at c32
            obtain ⟨σ33, eσ33⟩ : ∃ z : wt_St, z = wt_sf z18.2 108 60 x4 := ⟨_, rfl⟩
            rw [← eσ33]
            have fσ33 := wt_fr_sf eσ33
            have vσ33 := wt_ceq (wt_v_sf eσ33)
            have rσ33 := wt_RI_fno l22 eσ33 (Or.inr (by decide +kernel))
            refine wt_T_it (fun s : Int32 × wt_St => wt_fr (fun i k => False) (fun i => i = 318) σ33 s.2 ∧ 0 ≤ (s.1).toInt ∧ wt_RI s.2) (fun s : Int32 × wt_St => (x2.toInt - s.1.toInt + 0).toNat) (fun KK34 z35 I36 hKK34 => ?_) _ _ ?_ ?_
            · skip
              obtain ⟨l37, l38, l39⟩ := I36
              unfold wp_md_tries_B77
              have bb40 := wt_bd z35.1
              refine wt_T_if (fun h41 => ?_) (fun h41 => ?_)
              · skip
                have c42 := wt_cle h41
                refine wt_T_some ?_
                exact ⟨(wt_fr.tr (wt_fr.tr (wt_fr.tr (wt_fr.tr wt_fr.rf f15 (fun i k h => h.elim) (fun i h => by (try dsimp only at h); exact Or.inl (by first | exact h | omega))) l20 (fun i k h => h.elim) (fun i h => by (try dsimp only at h); exact Or.inl (by first | exact h | omega))) fσ33 (fun i k h => by (try dsimp only at h); exact (by first | exact h | omega)) (fun i h => h.elim)) l37 (fun i k h => h.elim) (fun i h => by (try dsimp only at h); exact Or.inr (Or.inl (by first | exact h | omega)))), l39⟩
              · skip
                have c43 := wt_ncle h41
                refine wt_T_gd (wt_ix (by first | with_reducible assumption | omega) (by first | with_reducible assumption | omega)) ?_
                refine wt_T_gd (wt_ix (by first | with_reducible assumption | omega) (by first | with_reducible assumption | omega)) ?_
                obtain ⟨σ44, eσ44⟩ : ∃ z : wt_St, z = wt_sa z35.2 318 (Int32.toNatClampNeg z35.1) (wt_ga z35.2 319 (Int32.toNatClampNeg z35.1)) := ⟨_, rfl⟩
                rw [← eσ44]
                have fσ44 := wt_fr_sa eσ44
                have vσ44 := wt_ceq (wt_v_sa eσ44)
                have bb45 := wt_tn z35.1
                have g47 : 0 ≤ (wt_ga z35.2 319 (Int32.toNatClampNeg z35.1)).toInt ∧ (wt_ga z35.2 319 (Int32.toNatClampNeg z35.1)).toInt ≤ 59 := wt_Ra16 l39 319 (by decide) (by decide) (Int32.toNatClampNeg z35.1)
                have tt48 : (wt_ga z35.2 319 (Int32.toNatClampNeg z35.1)).toInt = (wt_ga σ33 319 (Int32.toNatClampNeg z35.1)).toInt := congrArg Int32.toInt (l37.2 319 (by (try dsimp only); omega) (Int32.toNatClampNeg z35.1))
                have tt51 : (wt_ga σ33 319 (Int32.toNatClampNeg z35.1)).toInt = (wt_ga z18.2 319 (Int32.toNatClampNeg z35.1)).toInt := congrArg Int32.toInt (fσ33.2 319 (fun z => z) (Int32.toNatClampNeg z35.1))
                have tt54 : (wt_ga z18.2 319 (Int32.toNatClampNeg z35.1)).toInt = (wt_ga r13 319 (Int32.toNatClampNeg z35.1)).toInt := congrArg Int32.toInt (l20.2 319 (by (try dsimp only); omega) (Int32.toNatClampNeg z35.1))
                have tt57 : (wt_ga r13 319 (Int32.toNatClampNeg z35.1)).toInt = (wt_ga σ 319 (Int32.toNatClampNeg z35.1)).toInt := congrArg Int32.toInt (f15.2 319 (by (try dsimp only); omega) (Int32.toNatClampNeg z35.1))
                have rσ44 := wt_RI_no l39 eσ44 318 319 (by decide +kernel) (by decide) (by decide)
                refine hKK34 _ ⟨(wt_fr.tr (wt_fr.tr wt_fr.rf l37 (fun i k h => h.elim) (fun i h => by (try dsimp only at h); exact (by first | exact h | omega))) fσ44 (fun i k h => h.elim) (fun i h => by (try dsimp only at h); exact (by first | exact h | omega))), (wt_nn (B := x2) (by first | with_reducible assumption | omega) (by first | with_reducible assumption | omega)), rσ44⟩ ?_
                show (x2.toInt - (z35.1 + (1 : Int32)).toInt + 0).toNat < (x2.toInt - z35.1.toInt + 0).toNat
                exact wt_mu (by first | with_reducible assumption | omega) (by first | with_reducible assumption | omega)
            · skip
              exact ⟨wt_fr.rf, (show 0 ≤ ((0 : Int32)).toInt by omega), rσ33⟩
            · skip
              show (x2.toInt - (0 : Int32).toInt + 0).toNat < n
              omega
          · skip
            have c60 := wt_nceq h31
            rw [wt_lm1] at c60
            refine wt_T_some ?_
            exact ⟨(wt_fr.tr (wt_fr.tr wt_fr.rf f15 (fun i k h => h.elim) (fun i h => by (try dsimp only at h); exact Or.inl (by first | exact h | omega))) l20 (fun i k h => h.elim) (fun i h => by (try dsimp only at h); exact Or.inl (by first | exact h | omega))), l22⟩
        · skip
          have c61 := wt_ncle h24
          refine wt_T_gd (wt_ix (by first | with_reducible assumption | omega) (by first | with_reducible assumption | omega)) ?_
          have bb62 := wt_tn z18.1
          have g64 : 0 ≤ (wt_ga z18.2 319 (Int32.toNatClampNeg z18.1)).toInt ∧ (wt_ga z18.2 319 (Int32.toNatClampNeg z18.1)).toInt ≤ 59 := wt_Ra16 l22 319 (by decide) (by decide) (Int32.toNatClampNeg z18.1)
          have tt65 : (wt_ga z18.2 319 (Int32.toNatClampNeg z18.1)).toInt = (wt_ga r13 319 (Int32.toNatClampNeg z18.1)).toInt := congrArg Int32.toInt (l20.2 319 (by (try dsimp only); omega) (Int32.toNatClampNeg z18.1))
          have tt68 : (wt_ga r13 319 (Int32.toNatClampNeg z18.1)).toInt = (wt_ga σ 319 (Int32.toNatClampNeg z18.1)).toInt := congrArg Int32.toInt (f15.2 319 (by (try dsimp only); omega) (Int32.toNatClampNeg z18.1))
          refine wt_T_bi (wq_md_needsWord n hn (wt_ga z18.2 319 (Int32.toNatClampNeg z18.1)) z18.2 l22 (by first | with_reducible assumption | omega) (by first | with_reducible assumption | omega)) (fun r71 h72 => ?_)
          obtain ⟨f73, ri74⟩ := h72
          refine hKK17 _ ⟨(wt_fr.tr (wt_fr.tr wt_fr.rf l20 (fun i k h => h.elim) (fun i h => by (try dsimp only at h); exact (by first | exact h | omega))) f73 (fun i k h => h.elim) (fun i h => by (try dsimp only at h); exact (by first | exact h | omega))), (wt_nn (B := x2) (by first | with_reducible assumption | omega) (by first | with_reducible assumption | omega)), ri74⟩ ?_
          show (x2.toInt - (z18.1 + (1 : Int32)).toInt + 0).toNat < (x2.toInt - z18.1.toInt + 0).toNat
          exact wt_mu (by first | with_reducible assumption | omega) (by first | with_reducible assumption | omega)
      · skip
        exact ⟨wt_fr.rf, (show 0 ≤ ((0 : Int32)).toInt by omega), ri16⟩
      · skip
        show (x2.toInt - (0 : Int32).toInt + 0).toNat < n
        omega
    · skip
      have c75 := wt_nceq h11
      refine wt_T_it (fun s : Int32 × wt_St => wt_fr (fun i k => (i = 108 ∧ k = 60)) (fun i => i = 319 ∨ i = 287 ∨ i = 318) σ s.2 ∧ 0 ≤ (s.1).toInt ∧ wt_RI s.2) (fun s : Int32 × wt_St => ((wt_gf s.2 108 28).toInt - s.1.toInt + 0).toNat) (fun KK76 z77 I78 hKK76 => ?_) _ _ ?_ ?_
      · skip
        obtain ⟨l79, l80, l81⟩ := I78
        unfold wp_md_tries_B107
        have g83 : 0 ≤ (wt_gf z77.2 108 28).toInt ∧ (wt_gf z77.2 108 28).toInt ≤ 60 := wt_Rf6 l81
        have tt84 : (wt_gf z77.2 108 28).toInt = (wt_gf σ 108 28).toInt := congrArg Int32.toInt (l79.1 108 28 (by (try dsimp only); omega))
        have bb87 := wt_bd z77.1
        refine wt_T_if (fun h88 => ?_) (fun h88 => ?_)
        · skip
          have c89 := wt_cle h88
          refine wt_T_some ?_
          exact ⟨(wt_fr.tr wt_fr.rf l79 (fun i k h => by (try dsimp only at h); exact (by first | exact h | omega)) (fun i h => by (try dsimp only at h); rcases h with h | h | h; exact Or.inr (Or.inr (by first | exact h | omega)); exact Or.inl (by first | exact h | omega); exact Or.inr (Or.inl (by first | exact h | omega)))), l81⟩
        · skip
          have c90 := wt_ncle h88
          refine wt_T_bi (wq_md_isOf n hn z77.1 x1 x2 z77.2 l81 (by first | with_reducible assumption | omega) (by first | with_reducible assumption | omega) (by first | with_reducible assumption | omega) (by first | with_reducible assumption | omega) (by first | with_reducible assumption | omega) (by first | with_reducible assumption | omega)) (fun r91 h92 => ?_)
          have e93 := h92
          have bb94 := wt_bd r91.1
          rw [e93]
          refine wt_T_if (fun h95 => ?_) (fun h95 => ?_)
          · skip
            have c96 := wt_ceq h95
            unfold wp_md_tries_B177
            refine hKK76 _ ⟨(wt_fr.tr wt_fr.rf l79 (fun i k h => by (try dsimp only at h); exact (by first | exact h | omega)) (fun i h => by (try dsimp only at h); rcases h with h | h | h; exact Or.inl (by first | exact h | omega); exact Or.inr (Or.inl (by first | exact h | omega)); exact Or.inr (Or.inr (by first | exact h | omega)))), (wt_nn (B := wt_gf z77.2 108 28) (by first | with_reducible assumption | omega) (by first | with_reducible assumption | omega)), l81⟩ ?_
            show ((wt_gf z77.2 108 28).toInt - (z77.1 + (1 : Int32)).toInt + 0).toNat < ((wt_gf z77.2 108 28).toInt - z77.1.toInt + 0).toNat
            exact wt_mu (by first | with_reducible assumption | omega) (by first | with_reducible assumption | omega)
          · skip
            have c97 := wt_nceq h95
            refine wt_T_if (fun h98 => ?_) (fun h98 => ?_)
            · skip
              have c99 := wt_cle h98
              unfold wp_md_tries_B151
              refine wt_T_gd (wt_ix (by first | with_reducible assumption | omega) (by first | with_reducible assumption | omega)) ?_
              obtain ⟨σ100, eσ100⟩ : ∃ z : wt_St, z = wt_sa z77.2 319 (Int32.toNatClampNeg x2) z77.1 := ⟨_, rfl⟩
              rw [← eσ100]
              have fσ100 := wt_fr_sa eσ100
              have vσ100 := wt_ceq (wt_v_sa eσ100)
              have bb101 := wt_tn x2
              have rσ100 := wt_Rn16 l81 eσ100 (by decide) (by decide) (show 0 ≤ (z77.1).toInt by omega) (show (z77.1).toInt ≤ 59 by omega)
              refine wt_T_bi (wq_md_priceOf n hn z77.1 σ100 rσ100 (by first | with_reducible assumption | omega) (by first | with_reducible assumption | omega)) (fun r102 h103 => ?_)
              have e104 := h103
              have bb105 := wt_bd r102.1
              rw [e104]
              have k110 : (1 : Int32).toInt = 1 := by decide
              have j111 := wt_i1 (c := x2) (by first | with_reducible assumption | omega)
              have g113 : 0 ≤ (wt_ga σ100 253 (Int32.toNatClampNeg x1)).toInt ∧ (wt_ga σ100 253 (Int32.toNatClampNeg x1)).toInt ≤ 12 := wt_Ra9 rσ100 253 (by decide) (by decide) (Int32.toNatClampNeg x1)
              have tt114 : (wt_ga σ100 253 (Int32.toNatClampNeg x1)).toInt = (wt_ga z77.2 253 (Int32.toNatClampNeg x1)).toInt := congrArg Int32.toInt (fσ100.2 253 (by (try dsimp only); omega) (Int32.toNatClampNeg x1))
              have tt117 : (wt_ga z77.2 253 (Int32.toNatClampNeg x1)).toInt = (wt_ga σ 253 (Int32.toNatClampNeg x1)).toInt := congrArg Int32.toInt (l79.2 253 (by (try dsimp only); omega) (Int32.toNatClampNeg x1))
              refine wt_T_bi (hR (x1, x2 + (1 : Int32), x3, x4 + r102.1, σ100) rσ100 rfl (show 0 ≤ (x2 + (1 : Int32)).toInt by omega) (show (x2 + (1 : Int32)).toInt ≤ (wt_ga σ100 253 (Int32.toNatClampNeg x1)).toInt by omega) (show (12 - (x2 + (1 : Int32)).toInt).toNat < (12 - x2.toInt).toNat by omega)) (fun r106 h107 => ?_)
              obtain ⟨f108, ri109⟩ : wt_fr (fun i k => (i = 108 ∧ k = 60)) (fun i => i = 287 ∨ i = 318 ∨ i = 319) σ100 r106 ∧ wt_RI r106 := h107
              unfold wp_md_tries_B177
              have g119 : 0 ≤ (wt_gf r106 108 28).toInt ∧ (wt_gf r106 108 28).toInt ≤ 60 := wt_Rf6 ri109
              have tt120 : (wt_gf r106 108 28).toInt = (wt_gf σ100 108 28).toInt := congrArg Int32.toInt (f108.1 108 28 (by (try dsimp only); omega))
              have tt123 : (wt_gf σ100 108 28).toInt = (wt_gf z77.2 108 28).toInt := congrArg Int32.toInt (fσ100.1 108 28 (fun z => z))
              refine hKK76 _ ⟨(wt_fr.tr (wt_fr.tr (wt_fr.tr wt_fr.rf l79 (fun i k h => by (try dsimp only at h); exact (by first | exact h | omega)) (fun i h => by (try dsimp only at h); rcases h with h | h | h; exact Or.inl (by first | exact h | omega); exact Or.inr (Or.inl (by first | exact h | omega)); exact Or.inr (Or.inr (by first | exact h | omega)))) fσ100 (fun i k h => h.elim) (fun i h => by (try dsimp only at h); exact Or.inl (by first | exact h | omega))) f108 (fun i k h => by (try dsimp only at h); exact (by first | exact h | omega)) (fun i h => by (try dsimp only at h); rcases h with h | h | h; exact Or.inr (Or.inl (by first | exact h | omega)); exact Or.inr (Or.inr (by first | exact h | omega)); exact Or.inl (by first | exact h | omega))), (wt_nn (B := wt_gf z77.2 108 28) (by first | with_reducible assumption | omega) (by first | with_reducible assumption | omega)), ri109⟩ ?_
              show ((wt_gf r106 108 28).toInt - (z77.1 + (1 : Int32)).toInt + 0).toNat < ((wt_gf z77.2 108 28).toInt - z77.1.toInt + 0).toNat
              exact wt_mu (by first | with_reducible assumption | omega) (by first | with_reducible assumption | omega)
            · skip
              have c124 := wt_ncle h98
              have k125 : (1 : Int32).toInt = 1 := by decide
              obtain ⟨j126, j126a, j126b⟩ := wt_subI x2 (1 : Int32)
              refine wt_T_gd (wt_ix (by first | with_reducible assumption | omega) (by first | with_reducible assumption | omega)) ?_
              have bb127 := wt_tn (x2 - (1 : Int32))
              have g129 : 0 ≤ (wt_ga z77.2 319 (Int32.toNatClampNeg (x2 - (1 : Int32)))).toInt ∧ (wt_ga z77.2 319 (Int32.toNatClampNeg (x2 - (1 : Int32)))).toInt ≤ 59 := wt_Ra16 l81 319 (by decide) (by decide) (Int32.toNatClampNeg (x2 - (1 : Int32)))
              refine wt_T_bi (wq_md_mayFollow n hn (wt_ga z77.2 319 (Int32.toNatClampNeg (x2 - (1 : Int32)))) z77.1 z77.2 l81 (by first | with_reducible assumption | omega) (by first | with_reducible assumption | omega) (by first | with_reducible assumption | omega) (by first | with_reducible assumption | omega)) (fun r130 h131 => ?_)
              have e132 := h131
              have bb133 := wt_bd r130.1
              rw [e132]
              refine wt_T_if (fun h134 => ?_) (fun h134 => ?_)
              · skip
                have c135 := wt_ceq h134
                unfold wp_md_tries_B177
                refine hKK76 _ ⟨(wt_fr.tr wt_fr.rf l79 (fun i k h => by (try dsimp only at h); exact (by first | exact h | omega)) (fun i h => by (try dsimp only at h); rcases h with h | h | h; exact Or.inl (by first | exact h | omega); exact Or.inr (Or.inl (by first | exact h | omega)); exact Or.inr (Or.inr (by first | exact h | omega)))), (wt_nn (B := wt_gf z77.2 108 28) (by first | with_reducible assumption | omega) (by first | with_reducible assumption | omega)), l81⟩ ?_
                show ((wt_gf z77.2 108 28).toInt - (z77.1 + (1 : Int32)).toInt + 0).toNat < ((wt_gf z77.2 108 28).toInt - z77.1.toInt + 0).toNat
                exact wt_mu (by first | with_reducible assumption | omega) (by first | with_reducible assumption | omega)
              · skip
                have c136 := wt_nceq h134
                unfold wp_md_tries_B151
                refine wt_T_gd (wt_ix (by first | with_reducible assumption | omega) (by first | with_reducible assumption | omega)) ?_
                obtain ⟨σ137, eσ137⟩ : ∃ z : wt_St, z = wt_sa z77.2 319 (Int32.toNatClampNeg x2) z77.1 := ⟨_, rfl⟩
                rw [← eσ137]
                have fσ137 := wt_fr_sa eσ137
                have vσ137 := wt_ceq (wt_v_sa eσ137)
                have bb138 := wt_tn x2
                have rσ137 := wt_Rn16 l81 eσ137 (by decide) (by decide) (show 0 ≤ (z77.1).toInt by omega) (show (z77.1).toInt ≤ 59 by omega)
                refine wt_T_bi (wq_md_priceOf n hn z77.1 σ137 rσ137 (by first | with_reducible assumption | omega) (by first | with_reducible assumption | omega)) (fun r139 h140 => ?_)
                have e141 := h140
                have bb142 := wt_bd r139.1
                rw [e141]
                have j147 := wt_i1 (c := x2) (by first | with_reducible assumption | omega)
                have g149 : 0 ≤ (wt_ga σ137 253 (Int32.toNatClampNeg x1)).toInt ∧ (wt_ga σ137 253 (Int32.toNatClampNeg x1)).toInt ≤ 12 := wt_Ra9 rσ137 253 (by decide) (by decide) (Int32.toNatClampNeg x1)
                have tt150 : (wt_ga σ137 253 (Int32.toNatClampNeg x1)).toInt = (wt_ga z77.2 253 (Int32.toNatClampNeg x1)).toInt := congrArg Int32.toInt (fσ137.2 253 (by (try dsimp only); omega) (Int32.toNatClampNeg x1))
                have tt153 : (wt_ga z77.2 253 (Int32.toNatClampNeg x1)).toInt = (wt_ga σ 253 (Int32.toNatClampNeg x1)).toInt := congrArg Int32.toInt (l79.2 253 (by (try dsimp only); omega) (Int32.toNatClampNeg x1))
                refine wt_T_bi (hR (x1, x2 + (1 : Int32), x3, x4 + r139.1, σ137) rσ137 rfl (show 0 ≤ (x2 + (1 : Int32)).toInt by omega) (show (x2 + (1 : Int32)).toInt ≤ (wt_ga σ137 253 (Int32.toNatClampNeg x1)).toInt by omega) (show (12 - (x2 + (1 : Int32)).toInt).toNat < (12 - x2.toInt).toNat by omega)) (fun r143 h144 => ?_)
                obtain ⟨f145, ri146⟩ : wt_fr (fun i k => (i = 108 ∧ k = 60)) (fun i => i = 287 ∨ i = 318 ∨ i = 319) σ137 r143 ∧ wt_RI r143 := h144
                unfold wp_md_tries_B177
                have g155 : 0 ≤ (wt_gf r143 108 28).toInt ∧ (wt_gf r143 108 28).toInt ≤ 60 := wt_Rf6 ri146
                have tt156 : (wt_gf r143 108 28).toInt = (wt_gf σ137 108 28).toInt := congrArg Int32.toInt (f145.1 108 28 (by (try dsimp only); omega))
                have tt159 : (wt_gf σ137 108 28).toInt = (wt_gf z77.2 108 28).toInt := congrArg Int32.toInt (fσ137.1 108 28 (fun z => z))
                refine hKK76 _ ⟨(wt_fr.tr (wt_fr.tr (wt_fr.tr wt_fr.rf l79 (fun i k h => by (try dsimp only at h); exact (by first | exact h | omega)) (fun i h => by (try dsimp only at h); rcases h with h | h | h; exact Or.inl (by first | exact h | omega); exact Or.inr (Or.inl (by first | exact h | omega)); exact Or.inr (Or.inr (by first | exact h | omega)))) fσ137 (fun i k h => h.elim) (fun i h => by (try dsimp only at h); exact Or.inl (by first | exact h | omega))) f145 (fun i k h => by (try dsimp only at h); exact (by first | exact h | omega)) (fun i h => by (try dsimp only at h); rcases h with h | h | h; exact Or.inr (Or.inl (by first | exact h | omega)); exact Or.inr (Or.inr (by first | exact h | omega)); exact Or.inl (by first | exact h | omega))), (wt_nn (B := wt_gf z77.2 108 28) (by first | with_reducible assumption | omega) (by first | with_reducible assumption | omega)), ri146⟩ ?_
                show ((wt_gf r143 108 28).toInt - (z77.1 + (1 : Int32)).toInt + 0).toNat < ((wt_gf z77.2 108 28).toInt - z77.1.toInt + 0).toNat
                exact wt_mu (by first | with_reducible assumption | omega) (by first | with_reducible assumption | omega)
      · skip
        have g161 : 0 ≤ (wt_gf σ 108 28).toInt ∧ (wt_gf σ 108 28).toInt ≤ 60 := wt_Rf6 r0
        exact ⟨wt_fr.rf, (show 0 ≤ ((0 : Int32)).toInt by omega), r0⟩
      · skip
        have g163 : 0 ≤ (wt_gf σ 108 28).toInt ∧ (wt_gf σ 108 28).toInt ≤ 60 := wt_Rf6 r0
        show ((wt_gf σ 108 28).toInt - (0 : Int32).toInt + 0).toNat < n
        omega
  · skip
    have c164 := wt_nceq h9
    rw [wt_lm1] at c164
    refine wt_T_if (fun h165 => ?_) (fun h165 => ?_)
    · skip
      have c166 := wt_clt h165
      unfold wp_md_tries_B18
      have k0 : (0 : Int32).toInt = 0 := by decide
      refine wt_T_gd (wt_ix (by first | with_reducible assumption | omega) (by first | with_reducible assumption | omega)) ?_
      refine wt_T_if (fun h167 => ?_) (fun h167 => ?_)
      · skip
        have c168 := wt_ceq h167
        refine wt_T_bi (wq_md_needsNone n hn σ r0) (fun r169 h170 => ?_)
        obtain ⟨f171, ri172⟩ := h170
        refine wt_T_it (fun s : Int32 × wt_St => wt_fr (fun i k => False) (fun i => i = 287) r169 s.2 ∧ 0 ≤ (s.1).toInt ∧ wt_RI s.2) (fun s : Int32 × wt_St => (x2.toInt - s.1.toInt + 0).toNat) (fun KK173 z174 I175 hKK173 => ?_) _ _ ?_ ?_
        · skip
          obtain ⟨l176, l177, l178⟩ := I175
          unfold wp_md_tries_B35
          have bb179 := wt_bd z174.1
          refine wt_T_if (fun h180 => ?_) (fun h180 => ?_)
          · skip
            have c181 := wt_cle h180
            refine wt_T_bi (wq_md_lacking n hn x3 z174.2 l178) (fun r182 h183 => ?_)
            obtain ⟨e184, pp185⟩ := h183
            have bb186 := wt_bd r182.1
            rw [e184]
            refine wt_T_if (fun h187 => ?_) (fun h187 => ?_)
            · skip
              have c188 := wt_ceq h187
              rw [wt_lm1] at c188
              obtain ⟨σ189, eσ189⟩ : ∃ z : wt_St, z = wt_sf z174.2 108 60 x4 := ⟨_, rfl⟩
              rw [← eσ189]
              have fσ189 := wt_fr_sf eσ189
              have vσ189 := wt_ceq (wt_v_sf eσ189)
              have rσ189 := wt_RI_fno l178 eσ189 (Or.inr (by decide +kernel))
              refine wt_T_it (fun s : Int32 × wt_St => wt_fr (fun i k => False) (fun i => i = 318) σ189 s.2 ∧ 0 ≤ (s.1).toInt ∧ wt_RI s.2) (fun s : Int32 × wt_St => (x2.toInt - s.1.toInt + 0).toNat) (fun KK190 z191 I192 hKK190 => ?_) _ _ ?_ ?_
              · skip
                obtain ⟨l193, l194, l195⟩ := I192
                unfold wp_md_tries_B77
                have bb196 := wt_bd z191.1
                refine wt_T_if (fun h197 => ?_) (fun h197 => ?_)
                · skip
                  have c198 := wt_cle h197
                  refine wt_T_some ?_
                  exact ⟨(wt_fr.tr (wt_fr.tr (wt_fr.tr (wt_fr.tr wt_fr.rf f171 (fun i k h => h.elim) (fun i h => by (try dsimp only at h); exact Or.inl (by first | exact h | omega))) l176 (fun i k h => h.elim) (fun i h => by (try dsimp only at h); exact Or.inl (by first | exact h | omega))) fσ189 (fun i k h => by (try dsimp only at h); exact (by first | exact h | omega)) (fun i h => h.elim)) l193 (fun i k h => h.elim) (fun i h => by (try dsimp only at h); exact Or.inr (Or.inl (by first | exact h | omega)))), l195⟩
                · skip
                  have c199 := wt_ncle h197
                  refine wt_T_gd (wt_ix (by first | with_reducible assumption | omega) (by first | with_reducible assumption | omega)) ?_
                  refine wt_T_gd (wt_ix (by first | with_reducible assumption | omega) (by first | with_reducible assumption | omega)) ?_
                  obtain ⟨σ200, eσ200⟩ : ∃ z : wt_St, z = wt_sa z191.2 318 (Int32.toNatClampNeg z191.1) (wt_ga z191.2 319 (Int32.toNatClampNeg z191.1)) := ⟨_, rfl⟩
                  rw [← eσ200]
                  have fσ200 := wt_fr_sa eσ200
                  have vσ200 := wt_ceq (wt_v_sa eσ200)
                  have bb201 := wt_tn z191.1
                  have g203 : 0 ≤ (wt_ga z191.2 319 (Int32.toNatClampNeg z191.1)).toInt ∧ (wt_ga z191.2 319 (Int32.toNatClampNeg z191.1)).toInt ≤ 59 := wt_Ra16 l195 319 (by decide) (by decide) (Int32.toNatClampNeg z191.1)
                  have tt204 : (wt_ga z191.2 319 (Int32.toNatClampNeg z191.1)).toInt = (wt_ga σ189 319 (Int32.toNatClampNeg z191.1)).toInt := congrArg Int32.toInt (l193.2 319 (by (try dsimp only); omega) (Int32.toNatClampNeg z191.1))
                  have tt207 : (wt_ga σ189 319 (Int32.toNatClampNeg z191.1)).toInt = (wt_ga z174.2 319 (Int32.toNatClampNeg z191.1)).toInt := congrArg Int32.toInt (fσ189.2 319 (fun z => z) (Int32.toNatClampNeg z191.1))
                  have tt210 : (wt_ga z174.2 319 (Int32.toNatClampNeg z191.1)).toInt = (wt_ga r169 319 (Int32.toNatClampNeg z191.1)).toInt := congrArg Int32.toInt (l176.2 319 (by (try dsimp only); omega) (Int32.toNatClampNeg z191.1))
                  have tt213 : (wt_ga r169 319 (Int32.toNatClampNeg z191.1)).toInt = (wt_ga σ 319 (Int32.toNatClampNeg z191.1)).toInt := congrArg Int32.toInt (f171.2 319 (by (try dsimp only); omega) (Int32.toNatClampNeg z191.1))
                  have rσ200 := wt_RI_no l195 eσ200 318 319 (by decide +kernel) (by decide) (by decide)
                  refine hKK190 _ ⟨(wt_fr.tr (wt_fr.tr wt_fr.rf l193 (fun i k h => h.elim) (fun i h => by (try dsimp only at h); exact (by first | exact h | omega))) fσ200 (fun i k h => h.elim) (fun i h => by (try dsimp only at h); exact (by first | exact h | omega))), (wt_nn (B := x2) (by first | with_reducible assumption | omega) (by first | with_reducible assumption | omega)), rσ200⟩ ?_
                  show (x2.toInt - (z191.1 + (1 : Int32)).toInt + 0).toNat < (x2.toInt - z191.1.toInt + 0).toNat
                  exact wt_mu (by first | with_reducible assumption | omega) (by first | with_reducible assumption | omega)
              · skip
                exact ⟨wt_fr.rf, (show 0 ≤ ((0 : Int32)).toInt by omega), rσ189⟩
              · skip
                show (x2.toInt - (0 : Int32).toInt + 0).toNat < n
                omega
            · skip
              have c216 := wt_nceq h187
              rw [wt_lm1] at c216
              refine wt_T_some ?_
              exact ⟨(wt_fr.tr (wt_fr.tr wt_fr.rf f171 (fun i k h => h.elim) (fun i h => by (try dsimp only at h); exact Or.inl (by first | exact h | omega))) l176 (fun i k h => h.elim) (fun i h => by (try dsimp only at h); exact Or.inl (by first | exact h | omega))), l178⟩
          · skip
            have c217 := wt_ncle h180
            refine wt_T_gd (wt_ix (by first | with_reducible assumption | omega) (by first | with_reducible assumption | omega)) ?_
            have bb218 := wt_tn z174.1
            have g220 : 0 ≤ (wt_ga z174.2 319 (Int32.toNatClampNeg z174.1)).toInt ∧ (wt_ga z174.2 319 (Int32.toNatClampNeg z174.1)).toInt ≤ 59 := wt_Ra16 l178 319 (by decide) (by decide) (Int32.toNatClampNeg z174.1)
            have tt221 : (wt_ga z174.2 319 (Int32.toNatClampNeg z174.1)).toInt = (wt_ga r169 319 (Int32.toNatClampNeg z174.1)).toInt := congrArg Int32.toInt (l176.2 319 (by (try dsimp only); omega) (Int32.toNatClampNeg z174.1))
            have tt224 : (wt_ga r169 319 (Int32.toNatClampNeg z174.1)).toInt = (wt_ga σ 319 (Int32.toNatClampNeg z174.1)).toInt := congrArg Int32.toInt (f171.2 319 (by (try dsimp only); omega) (Int32.toNatClampNeg z174.1))
            refine wt_T_bi (wq_md_needsWord n hn (wt_ga z174.2 319 (Int32.toNatClampNeg z174.1)) z174.2 l178 (by first | with_reducible assumption | omega) (by first | with_reducible assumption | omega)) (fun r227 h228 => ?_)
            obtain ⟨f229, ri230⟩ := h228
            refine hKK173 _ ⟨(wt_fr.tr (wt_fr.tr wt_fr.rf l176 (fun i k h => h.elim) (fun i h => by (try dsimp only at h); exact (by first | exact h | omega))) f229 (fun i k h => h.elim) (fun i h => by (try dsimp only at h); exact (by first | exact h | omega))), (wt_nn (B := x2) (by first | with_reducible assumption | omega) (by first | with_reducible assumption | omega)), ri230⟩ ?_
            show (x2.toInt - (z174.1 + (1 : Int32)).toInt + 0).toNat < (x2.toInt - z174.1.toInt + 0).toNat
            exact wt_mu (by first | with_reducible assumption | omega) (by first | with_reducible assumption | omega)
        · skip
          exact ⟨wt_fr.rf, (show 0 ≤ ((0 : Int32)).toInt by omega), ri172⟩
        · skip
          show (x2.toInt - (0 : Int32).toInt + 0).toNat < n
          omega
      · skip
        have c231 := wt_nceq h167
        refine wt_T_it (fun s : Int32 × wt_St => wt_fr (fun i k => (i = 108 ∧ k = 60)) (fun i => i = 319 ∨ i = 287 ∨ i = 318) σ s.2 ∧ 0 ≤ (s.1).toInt ∧ wt_RI s.2) (fun s : Int32 × wt_St => ((wt_gf s.2 108 28).toInt - s.1.toInt + 0).toNat) (fun KK232 z233 I234 hKK232 => ?_) _ _ ?_ ?_
        · skip
          obtain ⟨l235, l236, l237⟩ := I234
          unfold wp_md_tries_B107
          have g239 : 0 ≤ (wt_gf z233.2 108 28).toInt ∧ (wt_gf z233.2 108 28).toInt ≤ 60 := wt_Rf6 l237
          have tt240 : (wt_gf z233.2 108 28).toInt = (wt_gf σ 108 28).toInt := congrArg Int32.toInt (l235.1 108 28 (by (try dsimp only); omega))
          have bb243 := wt_bd z233.1
          refine wt_T_if (fun h244 => ?_) (fun h244 => ?_)
          · skip
            have c245 := wt_cle h244
            refine wt_T_some ?_
            exact ⟨(wt_fr.tr wt_fr.rf l235 (fun i k h => by (try dsimp only at h); exact (by first | exact h | omega)) (fun i h => by (try dsimp only at h); rcases h with h | h | h; exact Or.inr (Or.inr (by first | exact h | omega)); exact Or.inl (by first | exact h | omega); exact Or.inr (Or.inl (by first | exact h | omega)))), l237⟩
          · skip
            have c246 := wt_ncle h244
            refine wt_T_bi (wq_md_isOf n hn z233.1 x1 x2 z233.2 l237 (by first | with_reducible assumption | omega) (by first | with_reducible assumption | omega) (by first | with_reducible assumption | omega) (by first | with_reducible assumption | omega) (by first | with_reducible assumption | omega) (by first | with_reducible assumption | omega)) (fun r247 h248 => ?_)
            have e249 := h248
            have bb250 := wt_bd r247.1
            rw [e249]
            refine wt_T_if (fun h251 => ?_) (fun h251 => ?_)
            · skip
              have c252 := wt_ceq h251
              unfold wp_md_tries_B177
              refine hKK232 _ ⟨(wt_fr.tr wt_fr.rf l235 (fun i k h => by (try dsimp only at h); exact (by first | exact h | omega)) (fun i h => by (try dsimp only at h); rcases h with h | h | h; exact Or.inl (by first | exact h | omega); exact Or.inr (Or.inl (by first | exact h | omega)); exact Or.inr (Or.inr (by first | exact h | omega)))), (wt_nn (B := wt_gf z233.2 108 28) (by first | with_reducible assumption | omega) (by first | with_reducible assumption | omega)), l237⟩ ?_
              show ((wt_gf z233.2 108 28).toInt - (z233.1 + (1 : Int32)).toInt + 0).toNat < ((wt_gf z233.2 108 28).toInt - z233.1.toInt + 0).toNat
              exact wt_mu (by first | with_reducible assumption | omega) (by first | with_reducible assumption | omega)
            · skip
              have c253 := wt_nceq h251
              refine wt_T_if (fun h254 => ?_) (fun h254 => ?_)
              · skip
                have c255 := wt_cle h254
                unfold wp_md_tries_B151
                refine wt_T_gd (wt_ix (by first | with_reducible assumption | omega) (by first | with_reducible assumption | omega)) ?_
                obtain ⟨σ256, eσ256⟩ : ∃ z : wt_St, z = wt_sa z233.2 319 (Int32.toNatClampNeg x2) z233.1 := ⟨_, rfl⟩
                rw [← eσ256]
                have fσ256 := wt_fr_sa eσ256
                have vσ256 := wt_ceq (wt_v_sa eσ256)
                have bb257 := wt_tn x2
                have rσ256 := wt_Rn16 l237 eσ256 (by decide) (by decide) (show 0 ≤ (z233.1).toInt by omega) (show (z233.1).toInt ≤ 59 by omega)
                refine wt_T_bi (wq_md_priceOf n hn z233.1 σ256 rσ256 (by first | with_reducible assumption | omega) (by first | with_reducible assumption | omega)) (fun r258 h259 => ?_)
                have e260 := h259
                have bb261 := wt_bd r258.1
                rw [e260]
                have k266 : (1 : Int32).toInt = 1 := by decide
                have j267 := wt_i1 (c := x2) (by first | with_reducible assumption | omega)
                have g269 : 0 ≤ (wt_ga σ256 253 (Int32.toNatClampNeg x1)).toInt ∧ (wt_ga σ256 253 (Int32.toNatClampNeg x1)).toInt ≤ 12 := wt_Ra9 rσ256 253 (by decide) (by decide) (Int32.toNatClampNeg x1)
                have tt270 : (wt_ga σ256 253 (Int32.toNatClampNeg x1)).toInt = (wt_ga z233.2 253 (Int32.toNatClampNeg x1)).toInt := congrArg Int32.toInt (fσ256.2 253 (by (try dsimp only); omega) (Int32.toNatClampNeg x1))
                have tt273 : (wt_ga z233.2 253 (Int32.toNatClampNeg x1)).toInt = (wt_ga σ 253 (Int32.toNatClampNeg x1)).toInt := congrArg Int32.toInt (l235.2 253 (by (try dsimp only); omega) (Int32.toNatClampNeg x1))
                refine wt_T_bi (hR (x1, x2 + (1 : Int32), x3, x4 + r258.1, σ256) rσ256 rfl (show 0 ≤ (x2 + (1 : Int32)).toInt by omega) (show (x2 + (1 : Int32)).toInt ≤ (wt_ga σ256 253 (Int32.toNatClampNeg x1)).toInt by omega) (show (12 - (x2 + (1 : Int32)).toInt).toNat < (12 - x2.toInt).toNat by omega)) (fun r262 h263 => ?_)
                obtain ⟨f264, ri265⟩ : wt_fr (fun i k => (i = 108 ∧ k = 60)) (fun i => i = 287 ∨ i = 318 ∨ i = 319) σ256 r262 ∧ wt_RI r262 := h263
                unfold wp_md_tries_B177
                have g275 : 0 ≤ (wt_gf r262 108 28).toInt ∧ (wt_gf r262 108 28).toInt ≤ 60 := wt_Rf6 ri265
                have tt276 : (wt_gf r262 108 28).toInt = (wt_gf σ256 108 28).toInt := congrArg Int32.toInt (f264.1 108 28 (by (try dsimp only); omega))
                have tt279 : (wt_gf σ256 108 28).toInt = (wt_gf z233.2 108 28).toInt := congrArg Int32.toInt (fσ256.1 108 28 (fun z => z))
                refine hKK232 _ ⟨(wt_fr.tr (wt_fr.tr (wt_fr.tr wt_fr.rf l235 (fun i k h => by (try dsimp only at h); exact (by first | exact h | omega)) (fun i h => by (try dsimp only at h); rcases h with h | h | h; exact Or.inl (by first | exact h | omega); exact Or.inr (Or.inl (by first | exact h | omega)); exact Or.inr (Or.inr (by first | exact h | omega)))) fσ256 (fun i k h => h.elim) (fun i h => by (try dsimp only at h); exact Or.inl (by first | exact h | omega))) f264 (fun i k h => by (try dsimp only at h); exact (by first | exact h | omega)) (fun i h => by (try dsimp only at h); rcases h with h | h | h; exact Or.inr (Or.inl (by first | exact h | omega)); exact Or.inr (Or.inr (by first | exact h | omega)); exact Or.inl (by first | exact h | omega))), (wt_nn (B := wt_gf z233.2 108 28) (by first | with_reducible assumption | omega) (by first | with_reducible assumption | omega)), ri265⟩ ?_
                show ((wt_gf r262 108 28).toInt - (z233.1 + (1 : Int32)).toInt + 0).toNat < ((wt_gf z233.2 108 28).toInt - z233.1.toInt + 0).toNat
                exact wt_mu (by first | with_reducible assumption | omega) (by first | with_reducible assumption | omega)
              · skip
                have c280 := wt_ncle h254
                have k281 : (1 : Int32).toInt = 1 := by decide
                obtain ⟨j282, j282a, j282b⟩ := wt_subI x2 (1 : Int32)
                refine wt_T_gd (wt_ix (by first | with_reducible assumption | omega) (by first | with_reducible assumption | omega)) ?_
                have bb283 := wt_tn (x2 - (1 : Int32))
                have g285 : 0 ≤ (wt_ga z233.2 319 (Int32.toNatClampNeg (x2 - (1 : Int32)))).toInt ∧ (wt_ga z233.2 319 (Int32.toNatClampNeg (x2 - (1 : Int32)))).toInt ≤ 59 := wt_Ra16 l237 319 (by decide) (by decide) (Int32.toNatClampNeg (x2 - (1 : Int32)))
                refine wt_T_bi (wq_md_mayFollow n hn (wt_ga z233.2 319 (Int32.toNatClampNeg (x2 - (1 : Int32)))) z233.1 z233.2 l237 (by first | with_reducible assumption | omega) (by first | with_reducible assumption | omega) (by first | with_reducible assumption | omega) (by first | with_reducible assumption | omega)) (fun r286 h287 => ?_)
                have e288 := h287
                have bb289 := wt_bd r286.1
                rw [e288]
                refine wt_T_if (fun h290 => ?_) (fun h290 => ?_)
                · skip
                  have c291 := wt_ceq h290
                  unfold wp_md_tries_B177
                  refine hKK232 _ ⟨(wt_fr.tr wt_fr.rf l235 (fun i k h => by (try dsimp only at h); exact (by first | exact h | omega)) (fun i h => by (try dsimp only at h); rcases h with h | h | h; exact Or.inl (by first | exact h | omega); exact Or.inr (Or.inl (by first | exact h | omega)); exact Or.inr (Or.inr (by first | exact h | omega)))), (wt_nn (B := wt_gf z233.2 108 28) (by first | with_reducible assumption | omega) (by first | with_reducible assumption | omega)), l237⟩ ?_
                  show ((wt_gf z233.2 108 28).toInt - (z233.1 + (1 : Int32)).toInt + 0).toNat < ((wt_gf z233.2 108 28).toInt - z233.1.toInt + 0).toNat
                  exact wt_mu (by first | with_reducible assumption | omega) (by first | with_reducible assumption | omega)
                · skip
                  have c292 := wt_nceq h290
                  unfold wp_md_tries_B151
                  refine wt_T_gd (wt_ix (by first | with_reducible assumption | omega) (by first | with_reducible assumption | omega)) ?_
                  obtain ⟨σ293, eσ293⟩ : ∃ z : wt_St, z = wt_sa z233.2 319 (Int32.toNatClampNeg x2) z233.1 := ⟨_, rfl⟩
                  rw [← eσ293]
                  have fσ293 := wt_fr_sa eσ293
                  have vσ293 := wt_ceq (wt_v_sa eσ293)
                  have bb294 := wt_tn x2
                  have rσ293 := wt_Rn16 l237 eσ293 (by decide) (by decide) (show 0 ≤ (z233.1).toInt by omega) (show (z233.1).toInt ≤ 59 by omega)
                  refine wt_T_bi (wq_md_priceOf n hn z233.1 σ293 rσ293 (by first | with_reducible assumption | omega) (by first | with_reducible assumption | omega)) (fun r295 h296 => ?_)
                  have e297 := h296
                  have bb298 := wt_bd r295.1
                  rw [e297]
                  have j303 := wt_i1 (c := x2) (by first | with_reducible assumption | omega)
                  have g305 : 0 ≤ (wt_ga σ293 253 (Int32.toNatClampNeg x1)).toInt ∧ (wt_ga σ293 253 (Int32.toNatClampNeg x1)).toInt ≤ 12 := wt_Ra9 rσ293 253 (by decide) (by decide) (Int32.toNatClampNeg x1)
                  have tt306 : (wt_ga σ293 253 (Int32.toNatClampNeg x1)).toInt = (wt_ga z233.2 253 (Int32.toNatClampNeg x1)).toInt := congrArg Int32.toInt (fσ293.2 253 (by (try dsimp only); omega) (Int32.toNatClampNeg x1))
                  have tt309 : (wt_ga z233.2 253 (Int32.toNatClampNeg x1)).toInt = (wt_ga σ 253 (Int32.toNatClampNeg x1)).toInt := congrArg Int32.toInt (l235.2 253 (by (try dsimp only); omega) (Int32.toNatClampNeg x1))
                  refine wt_T_bi (hR (x1, x2 + (1 : Int32), x3, x4 + r295.1, σ293) rσ293 rfl (show 0 ≤ (x2 + (1 : Int32)).toInt by omega) (show (x2 + (1 : Int32)).toInt ≤ (wt_ga σ293 253 (Int32.toNatClampNeg x1)).toInt by omega) (show (12 - (x2 + (1 : Int32)).toInt).toNat < (12 - x2.toInt).toNat by omega)) (fun r299 h300 => ?_)
                  obtain ⟨f301, ri302⟩ : wt_fr (fun i k => (i = 108 ∧ k = 60)) (fun i => i = 287 ∨ i = 318 ∨ i = 319) σ293 r299 ∧ wt_RI r299 := h300
                  unfold wp_md_tries_B177
                  have g311 : 0 ≤ (wt_gf r299 108 28).toInt ∧ (wt_gf r299 108 28).toInt ≤ 60 := wt_Rf6 ri302
                  have tt312 : (wt_gf r299 108 28).toInt = (wt_gf σ293 108 28).toInt := congrArg Int32.toInt (f301.1 108 28 (by (try dsimp only); omega))
                  have tt315 : (wt_gf σ293 108 28).toInt = (wt_gf z233.2 108 28).toInt := congrArg Int32.toInt (fσ293.1 108 28 (fun z => z))
                  refine hKK232 _ ⟨(wt_fr.tr (wt_fr.tr (wt_fr.tr wt_fr.rf l235 (fun i k h => by (try dsimp only at h); exact (by first | exact h | omega)) (fun i h => by (try dsimp only at h); rcases h with h | h | h; exact Or.inl (by first | exact h | omega); exact Or.inr (Or.inl (by first | exact h | omega)); exact Or.inr (Or.inr (by first | exact h | omega)))) fσ293 (fun i k h => h.elim) (fun i h => by (try dsimp only at h); exact Or.inl (by first | exact h | omega))) f301 (fun i k h => by (try dsimp only at h); exact (by first | exact h | omega)) (fun i h => by (try dsimp only at h); rcases h with h | h | h; exact Or.inr (Or.inl (by first | exact h | omega)); exact Or.inr (Or.inr (by first | exact h | omega)); exact Or.inl (by first | exact h | omega))), (wt_nn (B := wt_gf z233.2 108 28) (by first | with_reducible assumption | omega) (by first | with_reducible assumption | omega)), ri302⟩ ?_
                  show ((wt_gf r299 108 28).toInt - (z233.1 + (1 : Int32)).toInt + 0).toNat < ((wt_gf z233.2 108 28).toInt - z233.1.toInt + 0).toNat
                  exact wt_mu (by first | with_reducible assumption | omega) (by first | with_reducible assumption | omega)
        · skip
          have g317 : 0 ≤ (wt_gf σ 108 28).toInt ∧ (wt_gf σ 108 28).toInt ≤ 60 := wt_Rf6 r0
          exact ⟨wt_fr.rf, (show 0 ≤ ((0 : Int32)).toInt by omega), r0⟩
        · skip
          have g319 : 0 ≤ (wt_gf σ 108 28).toInt ∧ (wt_gf σ 108 28).toInt ≤ 60 := wt_Rf6 r0
          show ((wt_gf σ 108 28).toInt - (0 : Int32).toInt + 0).toNat < n
          omega
    · skip
      have c320 := wt_ncl h165
      refine wt_T_some ?_
      exact ⟨wt_fr.rf, r0⟩
set_option maxRecDepth 100000 in
theorem wq_md_tries (n : Nat) (hn : 4294967297 < n) (x1 : Int32) (x2 : Int32) (x3 : Int32) (x4 : Int32) (σ : wt_St) (r0 : wt_RI σ) (p0 : 0 ≤ x1.toInt) (p1 : x1.toInt ≤ 7) (p2 : 0 ≤ x2.toInt) (p3 : x2.toInt ≤ (wt_ga σ 253 (Int32.toNatClampNeg x1)).toInt) : wt_T (wp_md_tries n x1 x2 x3 x4 σ) (fun q => wt_fr (fun i k => (i = 108 ∧ k = 60)) (fun i => i = 287 ∨ i = 318 ∨ i = 319) σ q ∧ wt_RI q) := by
  unfold wp_md_tries
  refine wt_T_rec (fun z : Int32 × Int32 × Int32 × Int32 × wt_St => wt_RI z.2.2.2.2 ∧ z.1 = x1 ∧ 0 ≤ z.2.1.toInt ∧ z.2.1.toInt ≤ (wt_ga z.2.2.2.2 253 (Int32.toNatClampNeg x1)).toInt) (fun z : Int32 × Int32 × Int32 × Int32 × wt_St => (12 - z.2.1.toInt).toNat) (fun (z : Int32 × Int32 × Int32 × Int32 × wt_St) (q : wt_St) => wt_fr (fun i k => (i = 108 ∧ k = 60)) (fun i => i = 287 ∨ i = 318 ∨ i = 319) z.2.2.2.2 q ∧ wt_RI q) (fun R z hI hR => ?_) 16 _ ⟨r0, rfl, p2, p3⟩ (show (12 - x2.toInt).toNat < 16 by omega)
  obtain ⟨i1, i2, i3, i4⟩ := hI
  have hz : 0 ≤ z.1.toInt ∧ z.1.toInt ≤ 7 := by rw [i2]; exact ⟨p0, p1⟩
  exact wq_md_tries_b n hn R z.1 z.2.1 z.2.2.1 z.2.2.2.1 z.2.2.2.2 i1 hz.1 hz.2 i3 (by rw [i2]; exact i4) (fun w w1 w2 w3 w4 w5 => hR w ⟨w1, w2.trans i2, w3, by rw [← i2]; exact w4⟩ w5)
set_option maxRecDepth 100000 in
set_option maxHeartbeats 4000000 in
theorem wq_md_fitting_B49 (n : Nat) (hn : 4294967297 < n) (x1 : Int32) (x2 : Int32) (x3 : Int32) (x4 : Int32) (y1 : Int32) (σ : wt_St) (r0 : wt_RI σ) (p0 : y1.toInt ≠ 0 ∨ (0 ≤ x1.toInt ∧ x1.toInt < (wt_gf σ 108 39).toInt)) : wt_T (wp_md_fitting_B49 n x1 x2 x3 x4 y1 σ) (fun q => wt_fr (fun i k => (i = 108 ∧ k = 0) ∨ (i = 108 ∧ k = 60)) (fun i => i = 287 ∨ i = 318 ∨ i = 319) σ q.2 ∧ wt_RI q.2) := by
  have bb1 := wt_bd x1
  have bb2 := wt_bd x2
  have bb3 := wt_bd x3
  have bb4 := wt_bd x4
  have bb5 := wt_bd y1
  have g7 : 0 ≤ (wt_gf σ 108 39).toInt ∧ (wt_gf σ 108 39).toInt ≤ 8 := wt_Rf7 r0
  unfold wp_md_fitting_B49
  have k8 : (2 : Int32).toInt = 2 := by decide
  refine wt_T_bi (wq_md_bad n hn y1 (2 : Int32) σ r0 (by first | with_reducible assumption | omega)) (fun r9 h10 => ?_)
  obtain ⟨f11, ri12, pp13⟩ := h10
  have bb14 := wt_bd r9.1
  have bb15 := wt_bd (wt_gf r9.2 108 0)
  have bb16 := wt_bd (wt_gf σ 108 0)
  have k17 : (0 : Int32).toInt = 0 := by decide
  refine wt_T_if (fun h18 => ?_) (fun h18 => ?_)
  · skip
    have c19 := wt_ceq h18
    have k25 : (1 : Int32).toInt = 1 := by decide
    refine wt_T_it (fun s : Int32 × Int32 × wt_St => s.2.2 = r9.2 ∧ 0 ≤ (s.2.1).toInt) (fun s : Int32 × Int32 × wt_St => ((wt_ga s.2.2 253 (Int32.toNatClampNeg x1)).toInt - s.2.1.toInt + 0).toNat) (fun KK20 z21 I22 hKK20 => ?_) _ _ ?_ ?_
    · skip
      obtain ⟨l23, l24⟩ := I22
      unfold wp_md_fitting_B64
      rw [l23]
      have bb26 := wt_tn x1
      have g28 : 0 ≤ (wt_ga r9.2 253 (Int32.toNatClampNeg x1)).toInt ∧ (wt_ga r9.2 253 (Int32.toNatClampNeg x1)).toInt ≤ 12 := wt_Ra9 ri12 253 (by decide) (by decide) (Int32.toNatClampNeg x1)
      have tt29 : (wt_ga r9.2 253 (Int32.toNatClampNeg x1)).toInt = (wt_ga σ 253 (Int32.toNatClampNeg x1)).toInt := congrArg Int32.toInt (f11.2 253 (fun z => z) (Int32.toNatClampNeg x1))
      have bb32 := wt_bd z21.2.1
      refine wt_T_gd (wt_ix (by first | with_reducible assumption | omega) (by first | with_reducible assumption | omega)) ?_
      refine wt_T_if (fun h33 => ?_) (fun h33 => ?_)
      · skip
        have c34 := wt_cle h33
        have bb35 := wt_bd z21.1
        have k36 : (4096 : Int32).toInt = 4096 := by decide
        refine wt_T_if (fun h37 => ?_) (fun h37 => ?_)
        · skip
          have c38 := wt_cle h37
          obtain ⟨σ39, eσ39⟩ : ∃ z : wt_St, z = wt_sf r9.2 108 60 (-1 : Int32) := ⟨_, rfl⟩
          rw [← eσ39]
          have fσ39 := wt_fr_sf eσ39
          have vσ39 := wt_ceq (wt_v_sf eσ39)
          have rσ39 := wt_RI_fno ri12 eσ39 (Or.inr (by decide +kernel))
          have g41 : 0 ≤ (wt_ga σ39 253 (Int32.toNatClampNeg x1)).toInt ∧ (wt_ga σ39 253 (Int32.toNatClampNeg x1)).toInt ≤ 12 := wt_Ra9 rσ39 253 (by decide) (by decide) (Int32.toNatClampNeg x1)
          have tt42 : (wt_ga σ39 253 (Int32.toNatClampNeg x1)).toInt = (wt_ga r9.2 253 (Int32.toNatClampNeg x1)).toInt := congrArg Int32.toInt (fσ39.2 253 (fun z => z) (Int32.toNatClampNeg x1))
          refine wt_T_bi (wq_md_tries n hn x1 (0 : Int32) x2 (0 : Int32) σ39 rσ39 (by first | with_reducible assumption | omega) (by first | with_reducible assumption | omega) (by first | with_reducible assumption | omega) (by first | with_reducible assumption | omega)) (fun r43 h44 => ?_)
          obtain ⟨f45, ri46⟩ := h44
          refine wt_T_if (fun h47 => ?_) (fun h47 => ?_)
          · skip
            have c48 := wt_ceq h47
            unfold wp_md_fitting_B185
            refine wt_T_some ?_
            exact ⟨(wt_fr.tr (wt_fr.tr (wt_fr.tr wt_fr.rf f11 (fun i k h => by (try dsimp only at h); exact Or.inl (by first | exact h | omega)) (fun i h => h.elim)) fσ39 (fun i k h => by (try dsimp only at h); exact Or.inr (by first | exact h | omega)) (fun i h => h.elim)) f45 (fun i k h => by (try dsimp only at h); exact Or.inr (by first | exact h | omega)) (fun i h => by (try dsimp only at h); rcases h with h | h | h; exact Or.inl (by first | exact h | omega); exact Or.inr (Or.inl (by first | exact h | omega)); exact Or.inr (Or.inr (by first | exact h | omega)))), ri46⟩
          · skip
            have c49 := wt_nceq h47
            have bb50 := wt_bd (wt_gf r43 108 60)
            refine wt_T_if (fun h51 => ?_) (fun h51 => ?_)
            · skip
              have c52 := wt_ceq h51
              rw [wt_lm1] at c52
              unfold wp_md_fitting_B185
              refine wt_T_some ?_
              exact ⟨(wt_fr.tr (wt_fr.tr (wt_fr.tr wt_fr.rf f11 (fun i k h => by (try dsimp only at h); exact Or.inl (by first | exact h | omega)) (fun i h => h.elim)) fσ39 (fun i k h => by (try dsimp only at h); exact Or.inr (by first | exact h | omega)) (fun i h => h.elim)) f45 (fun i k h => by (try dsimp only at h); exact Or.inr (by first | exact h | omega)) (fun i h => by (try dsimp only at h); rcases h with h | h | h; exact Or.inl (by first | exact h | omega); exact Or.inr (Or.inl (by first | exact h | omega)); exact Or.inr (Or.inr (by first | exact h | omega)))), ri46⟩
            · skip
              have c53 := wt_nceq h51
              rw [wt_lm1] at c53
              refine wt_T_gd (wt_ix (by first | with_reducible assumption | omega) (by first | with_reducible assumption | omega)) ?_
              have g55 : 0 ≤ (wt_ga r43 253 (Int32.toNatClampNeg x1)).toInt ∧ (wt_ga r43 253 (Int32.toNatClampNeg x1)).toInt ≤ 12 := wt_Ra9 ri46 253 (by decide) (by decide) (Int32.toNatClampNeg x1)
              have tt56 : (wt_ga r43 253 (Int32.toNatClampNeg x1)).toInt = (wt_ga σ39 253 (Int32.toNatClampNeg x1)).toInt := congrArg Int32.toInt (f45.2 253 (by (try dsimp only); omega) (Int32.toNatClampNeg x1))
              obtain ⟨j57, j57a, j57b⟩ := wt_subI (wt_ga r43 253 (Int32.toNatClampNeg x1)) (1 : Int32)
              refine wt_T_bi (wq_md_in n hn x3 (0 : Int32) ((wt_ga r43 253 (Int32.toNatClampNeg x1)) - (1 : Int32)) r43 ri46) (fun r58 h59 => ?_)
              obtain ⟨e60, pp61⟩ := h59
              have bb62 := wt_bd r58.1
              rw [e60]
              refine wt_T_if (fun h63 => ?_) (fun h63 => ?_)
              · skip
                have c64 := wt_ceq h63
                refine wt_T_some ?_
                exact ⟨(wt_fr.tr (wt_fr.tr (wt_fr.tr wt_fr.rf f11 (fun i k h => by (try dsimp only at h); exact Or.inl (by first | exact h | omega)) (fun i h => h.elim)) fσ39 (fun i k h => by (try dsimp only at h); exact Or.inr (by first | exact h | omega)) (fun i h => h.elim)) f45 (fun i k h => by (try dsimp only at h); exact Or.inr (by first | exact h | omega)) (fun i h => by (try dsimp only at h); rcases h with h | h | h; exact Or.inl (by first | exact h | omega); exact Or.inr (Or.inl (by first | exact h | omega)); exact Or.inr (Or.inr (by first | exact h | omega)))), ri46⟩
              · skip
                have c65 := wt_nceq h63
                refine wt_T_gd (wt_ix (by first | with_reducible assumption | omega) (by first | with_reducible assumption | omega)) ?_
                refine wt_T_some ?_
                exact ⟨(wt_fr.tr (wt_fr.tr (wt_fr.tr wt_fr.rf f11 (fun i k h => by (try dsimp only at h); exact Or.inl (by first | exact h | omega)) (fun i h => h.elim)) fσ39 (fun i k h => by (try dsimp only at h); exact Or.inr (by first | exact h | omega)) (fun i h => h.elim)) f45 (fun i k h => by (try dsimp only at h); exact Or.inr (by first | exact h | omega)) (fun i h => by (try dsimp only at h); rcases h with h | h | h; exact Or.inl (by first | exact h | omega); exact Or.inr (Or.inl (by first | exact h | omega)); exact Or.inr (Or.inr (by first | exact h | omega)))), ri46⟩
        · skip
          have c66 := wt_ncle h37
          refine wt_T_some ?_
          exact ⟨(wt_fr.tr wt_fr.rf f11 (fun i k h => by (try dsimp only at h); exact Or.inl (by first | exact h | omega)) (fun i h => h.elim)), ri12⟩
      · skip
        have c67 := wt_ncle h33
        refine wt_T_it (fun s : Int32 × Int32 × wt_St => s.2.2 = r9.2 ∧ 0 ≤ (s.2.1).toInt) (fun s : Int32 × Int32 × wt_St => ((wt_gf s.2.2 108 28).toInt - s.2.1.toInt + 0).toNat) (fun KK68 z69 I70 hKK68 => ?_) _ _ ?_ ?_
        · skip
          obtain ⟨l71, l72⟩ := I70
          unfold wp_md_fitting_B81
          rw [l71]
          have g74 : 0 ≤ (wt_gf r9.2 108 28).toInt ∧ (wt_gf r9.2 108 28).toInt ≤ 60 := wt_Rf6 ri12
          have tt75 : (wt_gf r9.2 108 28).toInt = (wt_gf σ 108 28).toInt := congrArg Int32.toInt (f11.1 108 28 (by (try dsimp only); omega))
          have bb78 := wt_bd z69.2.1
          refine wt_T_if (fun h79 => ?_) (fun h79 => ?_)
          · skip
            have c80 := wt_cle h79
            have bb81 := wt_bd z21.1
            have bb82 := wt_bd z69.1
            obtain ⟨j83, j83a, j83b⟩ := wt_mulI z21.1 z69.1
            have k84 : (4096 : Int32).toInt = 4096 := by decide
            refine wt_T_if (fun h85 => ?_) (fun h85 => ?_)
            · skip
              have c86 := wt_cle h85
              unfold wp_md_fitting_B140
              refine hKK20 _ ⟨rfl, (wt_nn (B := wt_ga z21.2.2 253 (Int32.toNatClampNeg x1)) (by first | with_reducible assumption | omega) (by first | (rw [l23]; omega) | (rw [l23]; done) | omega))⟩ ?_
              show ((wt_ga r9.2 253 (Int32.toNatClampNeg x1)).toInt - (z21.2.1 + (1 : Int32)).toInt + 0).toNat < ((wt_ga z21.2.2 253 (Int32.toNatClampNeg x1)).toInt - z21.2.1.toInt + 0).toNat
              exact wt_mu (by first | (rw [l23]; omega) | (rw [l23]; done) | omega) (by first | (rw [l23]; omega) | (rw [l23]; done) | omega)
            · skip
              have c87 := wt_ncle h85
              unfold wp_md_fitting_B140
              have k88 : (5000 : Int32).toInt = 5000 := by decide
              refine hKK20 _ ⟨rfl, (wt_nn (B := wt_ga z21.2.2 253 (Int32.toNatClampNeg x1)) (by first | with_reducible assumption | omega) (by first | (rw [l23]; omega) | (rw [l23]; done) | omega))⟩ ?_
              show ((wt_ga r9.2 253 (Int32.toNatClampNeg x1)).toInt - (z21.2.1 + (1 : Int32)).toInt + 0).toNat < ((wt_ga z21.2.2 253 (Int32.toNatClampNeg x1)).toInt - z21.2.1.toInt + 0).toNat
              exact wt_mu (by first | (rw [l23]; omega) | (rw [l23]; done) | omega) (by first | (rw [l23]; omega) | (rw [l23]; done) | omega)
          · skip
            have c89 := wt_ncle h79
            refine wt_T_bi (wq_md_isOf n hn z69.2.1 x1 z21.2.1 r9.2 ri12 (by first | with_reducible assumption | omega) (by first | with_reducible assumption | omega) (by first | with_reducible assumption | omega) (by first | with_reducible assumption | omega) (by first | with_reducible assumption | omega) (by first | with_reducible assumption | omega)) (fun r90 h91 => ?_)
            have e92 := h91
            have bb93 := wt_bd r90.1
            rw [e92]
            refine wt_T_if (fun h94 => ?_) (fun h94 => ?_)
            · skip
              have c95 := wt_ceq h94
              unfold wp_md_fitting_B109
              have bb96 := wt_bd z69.1
              obtain ⟨j97, j97a, j97b⟩ := wt_addI z69.1 (0 : Int32)
              refine hKK68 _ ⟨rfl, (wt_nn (B := wt_gf z69.2.2 108 28) (by first | with_reducible assumption | omega) (by first | (rw [l71]; omega) | (rw [l71]; done) | omega))⟩ ?_
              show ((wt_gf r9.2 108 28).toInt - (z69.2.1 + (1 : Int32)).toInt + 0).toNat < ((wt_gf z69.2.2 108 28).toInt - z69.2.1.toInt + 0).toNat
              exact wt_mu (by first | (rw [l71]; omega) | (rw [l71]; done) | omega) (by first | (rw [l71]; omega) | (rw [l71]; done) | omega)
            · skip
              have c98 := wt_nceq h94
              unfold wp_md_fitting_B109
              have bb99 := wt_bd z69.1
              obtain ⟨j100, j100a, j100b⟩ := wt_addI z69.1 (1 : Int32)
              refine hKK68 _ ⟨rfl, (wt_nn (B := wt_gf z69.2.2 108 28) (by first | with_reducible assumption | omega) (by first | (rw [l71]; omega) | (rw [l71]; done) | omega))⟩ ?_
              show ((wt_gf r9.2 108 28).toInt - (z69.2.1 + (1 : Int32)).toInt + 0).toNat < ((wt_gf z69.2.2 108 28).toInt - z69.2.1.toInt + 0).toNat
              exact wt_mu (by first | (rw [l71]; omega) | (rw [l71]; done) | omega) (by first | (rw [l71]; omega) | (rw [l71]; done) | omega)
        · skip
          have g102 : 0 ≤ (wt_gf r9.2 108 28).toInt ∧ (wt_gf r9.2 108 28).toInt ≤ 60 := wt_Rf6 ri12
          have tt103 : (wt_gf r9.2 108 28).toInt = (wt_gf σ 108 28).toInt := congrArg Int32.toInt (f11.1 108 28 (by (try dsimp only); omega))
          exact ⟨rfl, (show 0 ≤ ((0 : Int32)).toInt by omega)⟩
        · skip
          have g107 : 0 ≤ (wt_gf r9.2 108 28).toInt ∧ (wt_gf r9.2 108 28).toInt ≤ 60 := wt_Rf6 ri12
          have tt108 : (wt_gf r9.2 108 28).toInt = (wt_gf σ 108 28).toInt := congrArg Int32.toInt (f11.1 108 28 (by (try dsimp only); omega))
          show ((wt_gf r9.2 108 28).toInt - (0 : Int32).toInt + 0).toNat < n
          omega
    · skip
      have bb111 := wt_tn x1
      have g113 : 0 ≤ (wt_ga r9.2 253 (Int32.toNatClampNeg x1)).toInt ∧ (wt_ga r9.2 253 (Int32.toNatClampNeg x1)).toInt ≤ 12 := wt_Ra9 ri12 253 (by decide) (by decide) (Int32.toNatClampNeg x1)
      have tt114 : (wt_ga r9.2 253 (Int32.toNatClampNeg x1)).toInt = (wt_ga σ 253 (Int32.toNatClampNeg x1)).toInt := congrArg Int32.toInt (f11.2 253 (fun z => z) (Int32.toNatClampNeg x1))
      exact ⟨rfl, (show 0 ≤ ((0 : Int32)).toInt by omega)⟩
    · skip
      have bb117 := wt_tn x1
      have g119 : 0 ≤ (wt_ga r9.2 253 (Int32.toNatClampNeg x1)).toInt ∧ (wt_ga r9.2 253 (Int32.toNatClampNeg x1)).toInt ≤ 12 := wt_Ra9 ri12 253 (by decide) (by decide) (Int32.toNatClampNeg x1)
      have tt120 : (wt_ga r9.2 253 (Int32.toNatClampNeg x1)).toInt = (wt_ga σ 253 (Int32.toNatClampNeg x1)).toInt := congrArg Int32.toInt (f11.2 253 (fun z => z) (Int32.toNatClampNeg x1))
      show ((wt_ga r9.2 253 (Int32.toNatClampNeg x1)).toInt - (0 : Int32).toInt + 0).toNat < n
      omega
  · skip
    have c123 := wt_nceq h18
    refine wt_T_some ?_
    exact ⟨(wt_fr.tr wt_fr.rf f11 (fun i k h => by (try dsimp only at h); exact Or.inl (by first | exact h | omega)) (fun i h => h.elim)), ri12⟩
set_option maxRecDepth 100000 in
set_option maxHeartbeats 4000000 in
theorem wq_md_fitting (n : Nat) (hn : 4294967297 < n) (x1 : Int32) (x2 : Int32) (x3 : Int32) (x4 : Int32) (σ : wt_St) (r0 : wt_RI σ) : wt_T (wp_md_fitting n x1 x2 x3 x4 σ) (fun q => wt_fr (fun i k => (i = 108 ∧ k = 0) ∨ (i = 108 ∧ k = 60)) (fun i => i = 287 ∨ i = 318 ∨ i = 319) σ q.2 ∧ wt_RI q.2) := by
  have bb1 := wt_bd x1
  have bb2 := wt_bd x2
  have bb3 := wt_bd x3
  have bb4 := wt_bd x4
  unfold wp_md_fitting
  obtain ⟨σ5, eσ5⟩ : ∃ z : wt_St, z = wt_sf σ 108 0 (0 : Int32) := ⟨_, rfl⟩
  rw [← eσ5]
  have fσ5 := wt_fr_sf eσ5
  have vσ5 := wt_ceq (wt_v_sf eσ5)
  have k6 : (0 : Int32).toInt = 0 := by decide
  have rσ5 := wt_RI_fno r0 eσ5 (Or.inr (by decide +kernel))
  refine wt_T_bi (wq_md_isText n hn x1 σ5 rσ5) (fun r7 h8 => ?_)
  obtain ⟨e9, pp10⟩ := h8
  have bb11 := wt_bd r7.1
  rw [e9]
  have g13 : 0 ≤ (wt_gf σ5 108 39).toInt ∧ (wt_gf σ5 108 39).toInt ≤ 8 := wt_Rf7 rσ5
  have tt14 : (wt_gf σ5 108 39).toInt = (wt_gf σ 108 39).toInt := congrArg Int32.toInt (fσ5.1 108 39 (by (try dsimp only); omega))
  refine wt_T_if (fun h17 => ?_) (fun h17 => ?_)
  · skip
    have c18 := wt_ceq h17
    unfold wp_md_fitting_B19
    have k19 : (1 : Int32).toInt = 1 := by decide
    refine wt_T_bi (wq_md_bad n hn (1 : Int32) (1 : Int32) σ5 rσ5 (by first | with_reducible assumption | omega)) (fun r20 h21 => ?_)
    obtain ⟨f22, ri23, pp24⟩ := h21
    have bb25 := wt_bd r20.1
    have bb26 := wt_bd (wt_gf r20.2 108 0)
    have bb27 := wt_bd (wt_gf σ5 108 0)
    refine wt_T_if (fun h28 => ?_) (fun h28 => ?_)
    · skip
      have c29 := wt_ceq h28
      refine wt_T_bi (wq_md_isCopies n hn x2 r20.2 ri23) (fun r30 h31 => ?_)
      obtain ⟨e32, pp33⟩ := h31
      have bb34 := wt_bd r30.1
      rw [e32]
      refine wt_T_if (fun h35 => ?_) (fun h35 => ?_)
      · skip
        have c36 := wt_ceq h35
        unfold wp_md_fitting_B44
        have g38 : 0 ≤ (wt_gf r20.2 108 39).toInt ∧ (wt_gf r20.2 108 39).toInt ≤ 8 := wt_Rf7 ri23
        have tt39 : (wt_gf r20.2 108 39).toInt = (wt_gf σ5 108 39).toInt := congrArg Int32.toInt (f22.1 108 39 (by (try dsimp only); omega))
        refine wt_T.imp (wq_md_fitting_B49 n hn x1 x2 x3 x4 (1 : Int32) r20.2 ri23 (by first | with_reducible assumption | omega)) (fun r40 h41 => ?_)
        have bb42 := wt_bd r40.1
        obtain ⟨f43, ri44⟩ := h41
        exact ⟨(wt_fr.tr (wt_fr.tr (wt_fr.tr wt_fr.rf fσ5 (fun i k h => by (try dsimp only at h); exact Or.inl (by first | exact h | omega)) (fun i h => h.elim)) f22 (fun i k h => by (try dsimp only at h); exact Or.inl (by first | exact h | omega)) (fun i h => h.elim)) f43 (fun i k h => by (try dsimp only at h); rcases h with h | h; exact Or.inl (by first | exact h | omega); exact Or.inr (by first | exact h | omega)) (fun i h => by (try dsimp only at h); rcases h with h | h | h; exact Or.inl (by first | exact h | omega); exact Or.inr (Or.inl (by first | exact h | omega)); exact Or.inr (Or.inr (by first | exact h | omega)))), ri44⟩
      · skip
        have c45 := wt_nceq h35
        refine wt_T_bi (wq_md_in n hn x4 (0 : Int32) (1 : Int32) r20.2 ri23) (fun r46 h47 => ?_)
        obtain ⟨e48, pp49⟩ := h47
        have bb50 := wt_bd r46.1
        rw [e48]
        refine wt_T_if (fun h51 => ?_) (fun h51 => ?_)
        · skip
          have c52 := wt_ceq h51
          unfold wp_md_fitting_B44
          have g54 : 0 ≤ (wt_gf r20.2 108 39).toInt ∧ (wt_gf r20.2 108 39).toInt ≤ 8 := wt_Rf7 ri23
          have tt55 : (wt_gf r20.2 108 39).toInt = (wt_gf σ5 108 39).toInt := congrArg Int32.toInt (f22.1 108 39 (by (try dsimp only); omega))
          refine wt_T.imp (wq_md_fitting_B49 n hn x1 x2 x3 x4 (1 : Int32) r20.2 ri23 (by first | with_reducible assumption | omega)) (fun r56 h57 => ?_)
          have bb58 := wt_bd r56.1
          obtain ⟨f59, ri60⟩ := h57
          exact ⟨(wt_fr.tr (wt_fr.tr (wt_fr.tr wt_fr.rf fσ5 (fun i k h => by (try dsimp only at h); exact Or.inl (by first | exact h | omega)) (fun i h => h.elim)) f22 (fun i k h => by (try dsimp only at h); exact Or.inl (by first | exact h | omega)) (fun i h => h.elim)) f59 (fun i k h => by (try dsimp only at h); rcases h with h | h; exact Or.inl (by first | exact h | omega); exact Or.inr (by first | exact h | omega)) (fun i h => by (try dsimp only at h); rcases h with h | h | h; exact Or.inl (by first | exact h | omega); exact Or.inr (Or.inl (by first | exact h | omega)); exact Or.inr (Or.inr (by first | exact h | omega)))), ri60⟩
        · skip
          have c61 := wt_nceq h51
          have g63 : 0 ≤ (wt_gf r20.2 108 39).toInt ∧ (wt_gf r20.2 108 39).toInt ≤ 8 := wt_Rf7 ri23
          have tt64 : (wt_gf r20.2 108 39).toInt = (wt_gf σ5 108 39).toInt := congrArg Int32.toInt (f22.1 108 39 (by (try dsimp only); omega))
          refine wt_T.imp (wq_md_fitting_B49 n hn x1 x2 x3 x4 (0 : Int32) r20.2 ri23 (by first | with_reducible assumption | omega)) (fun r65 h66 => ?_)
          have bb67 := wt_bd r65.1
          obtain ⟨f68, ri69⟩ := h66
          exact ⟨(wt_fr.tr (wt_fr.tr (wt_fr.tr wt_fr.rf fσ5 (fun i k h => by (try dsimp only at h); exact Or.inl (by first | exact h | omega)) (fun i h => h.elim)) f22 (fun i k h => by (try dsimp only at h); exact Or.inl (by first | exact h | omega)) (fun i h => h.elim)) f68 (fun i k h => by (try dsimp only at h); rcases h with h | h; exact Or.inl (by first | exact h | omega); exact Or.inr (by first | exact h | omega)) (fun i h => by (try dsimp only at h); rcases h with h | h | h; exact Or.inl (by first | exact h | omega); exact Or.inr (Or.inl (by first | exact h | omega)); exact Or.inr (Or.inr (by first | exact h | omega)))), ri69⟩
    · skip
      have c70 := wt_nceq h28
      refine wt_T_some ?_
      exact ⟨(wt_fr.tr (wt_fr.tr wt_fr.rf fσ5 (fun i k h => by (try dsimp only at h); exact Or.inl (by first | exact h | omega)) (fun i h => h.elim)) f22 (fun i k h => by (try dsimp only at h); exact Or.inl (by first | exact h | omega)) (fun i h => h.elim)), ri23⟩
  · skip
    have c71 := wt_nceq h17
    unfold wp_md_fitting_B19
    have k72 : (1 : Int32).toInt = 1 := by decide
    refine wt_T_bi (wq_md_bad n hn (0 : Int32) (1 : Int32) σ5 rσ5 (by first | with_reducible assumption | omega)) (fun r73 h74 => ?_)
    obtain ⟨f75, ri76, pp77⟩ := h74
    have bb78 := wt_bd r73.1
    have bb79 := wt_bd (wt_gf r73.2 108 0)
    have bb80 := wt_bd (wt_gf σ5 108 0)
    refine wt_T_if (fun h81 => ?_) (fun h81 => ?_)
    · skip
      have c82 := wt_ceq h81
      refine wt_T_bi (wq_md_isCopies n hn x2 r73.2 ri76) (fun r83 h84 => ?_)
      obtain ⟨e85, pp86⟩ := h84
      have bb87 := wt_bd r83.1
      rw [e85]
      refine wt_T_if (fun h88 => ?_) (fun h88 => ?_)
      · skip
        have c89 := wt_ceq h88
        unfold wp_md_fitting_B44
        have g91 : 0 ≤ (wt_gf r73.2 108 39).toInt ∧ (wt_gf r73.2 108 39).toInt ≤ 8 := wt_Rf7 ri76
        have tt92 : (wt_gf r73.2 108 39).toInt = (wt_gf σ5 108 39).toInt := congrArg Int32.toInt (f75.1 108 39 (by (try dsimp only); omega))
        refine wt_T.imp (wq_md_fitting_B49 n hn x1 x2 x3 x4 (1 : Int32) r73.2 ri76 (by first | with_reducible assumption | omega)) (fun r93 h94 => ?_)
        have bb95 := wt_bd r93.1
        obtain ⟨f96, ri97⟩ := h94
        exact ⟨(wt_fr.tr (wt_fr.tr (wt_fr.tr wt_fr.rf fσ5 (fun i k h => by (try dsimp only at h); exact Or.inl (by first | exact h | omega)) (fun i h => h.elim)) f75 (fun i k h => by (try dsimp only at h); exact Or.inl (by first | exact h | omega)) (fun i h => h.elim)) f96 (fun i k h => by (try dsimp only at h); rcases h with h | h; exact Or.inl (by first | exact h | omega); exact Or.inr (by first | exact h | omega)) (fun i h => by (try dsimp only at h); rcases h with h | h | h; exact Or.inl (by first | exact h | omega); exact Or.inr (Or.inl (by first | exact h | omega)); exact Or.inr (Or.inr (by first | exact h | omega)))), ri97⟩
      · skip
        have c98 := wt_nceq h88
        refine wt_T_bi (wq_md_in n hn x4 (0 : Int32) (1 : Int32) r73.2 ri76) (fun r99 h100 => ?_)
        obtain ⟨e101, pp102⟩ := h100
        have bb103 := wt_bd r99.1
        rw [e101]
        refine wt_T_if (fun h104 => ?_) (fun h104 => ?_)
        · skip
          have c105 := wt_ceq h104
          unfold wp_md_fitting_B44
          have g107 : 0 ≤ (wt_gf r73.2 108 39).toInt ∧ (wt_gf r73.2 108 39).toInt ≤ 8 := wt_Rf7 ri76
          have tt108 : (wt_gf r73.2 108 39).toInt = (wt_gf σ5 108 39).toInt := congrArg Int32.toInt (f75.1 108 39 (by (try dsimp only); omega))
          refine wt_T.imp (wq_md_fitting_B49 n hn x1 x2 x3 x4 (1 : Int32) r73.2 ri76 (by first | with_reducible assumption | omega)) (fun r109 h110 => ?_)
          have bb111 := wt_bd r109.1
          obtain ⟨f112, ri113⟩ := h110
          exact ⟨(wt_fr.tr (wt_fr.tr (wt_fr.tr wt_fr.rf fσ5 (fun i k h => by (try dsimp only at h); exact Or.inl (by first | exact h | omega)) (fun i h => h.elim)) f75 (fun i k h => by (try dsimp only at h); exact Or.inl (by first | exact h | omega)) (fun i h => h.elim)) f112 (fun i k h => by (try dsimp only at h); rcases h with h | h; exact Or.inl (by first | exact h | omega); exact Or.inr (by first | exact h | omega)) (fun i h => by (try dsimp only at h); rcases h with h | h | h; exact Or.inl (by first | exact h | omega); exact Or.inr (Or.inl (by first | exact h | omega)); exact Or.inr (Or.inr (by first | exact h | omega)))), ri113⟩
        · skip
          have c114 := wt_nceq h104
          have g116 : 0 ≤ (wt_gf r73.2 108 39).toInt ∧ (wt_gf r73.2 108 39).toInt ≤ 8 := wt_Rf7 ri76
          have tt117 : (wt_gf r73.2 108 39).toInt = (wt_gf σ5 108 39).toInt := congrArg Int32.toInt (f75.1 108 39 (by (try dsimp only); omega))
          refine wt_T.imp (wq_md_fitting_B49 n hn x1 x2 x3 x4 (0 : Int32) r73.2 ri76 (by first | with_reducible assumption | omega)) (fun r118 h119 => ?_)
          have bb120 := wt_bd r118.1
          obtain ⟨f121, ri122⟩ := h119
          exact ⟨(wt_fr.tr (wt_fr.tr (wt_fr.tr wt_fr.rf fσ5 (fun i k h => by (try dsimp only at h); exact Or.inl (by first | exact h | omega)) (fun i h => h.elim)) f75 (fun i k h => by (try dsimp only at h); exact Or.inl (by first | exact h | omega)) (fun i h => h.elim)) f121 (fun i k h => by (try dsimp only at h); rcases h with h | h; exact Or.inl (by first | exact h | omega); exact Or.inr (by first | exact h | omega)) (fun i h => by (try dsimp only at h); rcases h with h | h | h; exact Or.inl (by first | exact h | omega); exact Or.inr (Or.inl (by first | exact h | omega)); exact Or.inr (Or.inr (by first | exact h | omega)))), ri122⟩
    · skip
      have c123 := wt_nceq h81
      refine wt_T_some ?_
      exact ⟨(wt_fr.tr (wt_fr.tr wt_fr.rf fσ5 (fun i k h => by (try dsimp only at h); exact Or.inl (by first | exact h | omega)) (fun i h => h.elim)) f75 (fun i k h => by (try dsimp only at h); exact Or.inl (by first | exact h | omega)) (fun i h => h.elim)), ri76⟩
set_option maxRecDepth 100000 in
set_option maxHeartbeats 4000000 in
theorem wq_md_forget (n : Nat) (hn : 4294967297 < n) (σ : wt_St) (r0 : wt_RI σ) : wt_T (wp_md_forget n σ) (fun q => wt_fr (fun i k => (i = 108 ∧ k = 0) ∨ (i = 108 ∧ k = 40)) (fun i => False) σ q.2 ∧ wt_RI q.2) := by
  unfold wp_md_forget
  obtain ⟨σ1, eσ1⟩ : ∃ z : wt_St, z = wt_sf σ 108 0 (0 : Int32) := ⟨_, rfl⟩
  rw [← eσ1]
  have fσ1 := wt_fr_sf eσ1
  have vσ1 := wt_ceq (wt_v_sf eσ1)
  have k2 : (0 : Int32).toInt = 0 := by decide
  have rσ1 := wt_RI_fno r0 eσ1 (Or.inr (by decide +kernel))
  obtain ⟨σ3, eσ3⟩ : ∃ z : wt_St, z = wt_sf σ1 108 40 (0 : Int32) := ⟨_, rfl⟩
  rw [← eσ3]
  have fσ3 := wt_fr_sf eσ3
  have vσ3 := wt_ceq (wt_v_sf eσ3)
  have rσ3 := wt_Rm8 rσ1 eσ3 (show 0 ≤ ((0 : Int32)).toInt by omega) (show ((0 : Int32)).toInt ≤ 10 by omega)
  refine wt_T_some ?_
  exact ⟨(wt_fr.tr (wt_fr.tr wt_fr.rf fσ1 (fun i k h => by (try dsimp only at h); exact Or.inl (by first | exact h | omega)) (fun i h => h.elim)) fσ3 (fun i k h => by (try dsimp only at h); exact Or.inr (by first | exact h | omega)) (fun i h => h.elim)), rσ3⟩
set_option maxRecDepth 100000 in
set_option maxHeartbeats 4000000 in
theorem wq_md_worthOf (n : Nat) (hn : 4294967297 < n) (x1 : Int32) (σ : wt_St) (r0 : wt_RI σ) : wt_T (wp_md_worthOf n x1 σ) (fun q => q.2 = σ) := by
  have bb1 := wt_bd x1
  unfold wp_md_worthOf
  have k7 : (0 : Int32).toInt = 0 := by decide
  refine wt_T_it (fun s : Int32 × Int32 × wt_St => s.2.2 = σ ∧ 0 ≤ (s.2.1).toInt) (fun s : Int32 × Int32 × wt_St => ((wt_gf s.2.2 108 40).toInt - s.2.1.toInt + 0).toNat) (fun KK2 z3 I4 hKK2 => ?_) _ _ ?_ ?_
  · skip
    obtain ⟨l5, l6⟩ := I4
    unfold wp_md_worthOf_B4
    rw [l5]
    have g9 : 0 ≤ (wt_gf σ 108 40).toInt ∧ (wt_gf σ 108 40).toInt ≤ 10 := wt_Rf8 r0
    have bb10 := wt_bd z3.2.1
    refine wt_T_if (fun h11 => ?_) (fun h11 => ?_)
    · skip
      have c12 := wt_cle h11
      refine wt_T_some ?_
      exact rfl
    · skip
      have c13 := wt_ncle h11
      have k14 : (31 : Int32).toInt = 31 := by decide
      have bb15 := wt_bd (z3.2.1 &&& 31)
      have bb16 := wt_bd (x1 >>> (z3.2.1 &&& 31))
      have k17 : (1 : Int32).toInt = 1 := by decide
      have bb18 := wt_bd ((x1 >>> (z3.2.1 &&& 31)) &&& (1 : Int32))
      refine wt_T_if (fun h19 => ?_) (fun h19 => ?_)
      · skip
        have c20 := wt_ceq h19
        refine wt_T_gd (wt_ix (by first | with_reducible assumption | omega) (by first | with_reducible assumption | omega)) ?_
        have k21 : (3 : Int32).toInt = 3 := by decide
        refine wt_T_gd (wt_ix (by first | with_reducible assumption | omega) (by first | with_reducible assumption | omega)) ?_
        unfold wp_md_worthOf_B34
        have bb22 := wt_bd z3.1
        have bb23 := wt_tn z3.2.1
        have bb24 := wt_tn (3 : Int32)
        have bb25 := wt_bd (wt_ga σ (264 + (Int32.toNatClampNeg z3.2.1)) (Int32.toNatClampNeg (3 : Int32)))
        obtain ⟨j26, j26a, j26b⟩ := wt_addI z3.1 (wt_ga σ (264 + (Int32.toNatClampNeg z3.2.1)) (Int32.toNatClampNeg (3 : Int32)))
        refine hKK2 _ ⟨rfl, (wt_nn (B := wt_gf z3.2.2 108 40) (by first | with_reducible assumption | omega) (by first | (rw [l5]; omega) | (rw [l5]; done) | omega))⟩ ?_
        show ((wt_gf σ 108 40).toInt - (z3.2.1 + (1 : Int32)).toInt + 0).toNat < ((wt_gf z3.2.2 108 40).toInt - z3.2.1.toInt + 0).toNat
        exact wt_mu (by first | (rw [l5]; omega) | (rw [l5]; done) | omega) (by first | (rw [l5]; omega) | (rw [l5]; done) | omega)
      · skip
        have c27 := wt_nceq h19
        unfold wp_md_worthOf_B34
        have bb28 := wt_bd z3.1
        obtain ⟨j29, j29a, j29b⟩ := wt_addI z3.1 (0 : Int32)
        refine hKK2 _ ⟨rfl, (wt_nn (B := wt_gf z3.2.2 108 40) (by first | with_reducible assumption | omega) (by first | (rw [l5]; omega) | (rw [l5]; done) | omega))⟩ ?_
        show ((wt_gf σ 108 40).toInt - (z3.2.1 + (1 : Int32)).toInt + 0).toNat < ((wt_gf z3.2.2 108 40).toInt - z3.2.1.toInt + 0).toNat
        exact wt_mu (by first | (rw [l5]; omega) | (rw [l5]; done) | omega) (by first | (rw [l5]; omega) | (rw [l5]; done) | omega)
  · skip
    have g31 : 0 ≤ (wt_gf σ 108 40).toInt ∧ (wt_gf σ 108 40).toInt ≤ 10 := wt_Rf8 r0
    exact ⟨rfl, (show 0 ≤ ((0 : Int32)).toInt by omega)⟩
  · skip
    have g33 : 0 ≤ (wt_gf σ 108 40).toInt ∧ (wt_gf σ 108 40).toInt ≤ 10 := wt_Rf8 r0
    show ((wt_gf σ 108 40).toInt - (0 : Int32).toInt + 0).toNat < n
    omega
set_option maxRecDepth 100000 in
set_option maxHeartbeats 4000000 in
theorem wq_md_greedy (n : Nat) (hn : 4294967297 < n) (x1 : Int32) (σ : wt_St) (r0 : wt_RI σ) : wt_T (wp_md_greedy n x1 σ) (fun q => wt_fr (fun i k => (i = 108 ∧ k = 0) ∨ (i = 108 ∧ k = 54)) (fun i => i = 286 ∨ i = 287 ∨ i = 124 ∨ i = 288 ∨ i = 121) σ q.2 ∧ wt_RI q.2) := by
  have bb1 := wt_bd x1
  unfold wp_md_greedy
  obtain ⟨σ2, eσ2⟩ : ∃ z : wt_St, z = wt_sf σ 108 0 (0 : Int32) := ⟨_, rfl⟩
  rw [← eσ2]
  have fσ2 := wt_fr_sf eσ2
  have vσ2 := wt_ceq (wt_v_sf eσ2)
  have k3 : (0 : Int32).toInt = 0 := by decide
  have rσ2 := wt_RI_fno r0 eσ2 (Or.inr (by decide +kernel))
  have k4 : (1 : Int32).toInt = 1 := by decide
  refine wt_T_bi (wq_md_in n hn x1 (0 : Int32) (1 : Int32) σ2 rσ2) (fun r5 h6 => ?_)
  obtain ⟨e7, pp8⟩ := h6
  have bb9 := wt_bd r5.1
  rw [e7]
  refine wt_T_if (fun h10 => ?_) (fun h10 => ?_)
  · skip
    have c11 := wt_ceq h10
    unfold wp_md_greedy_B20
    refine wt_T_bi (wq_md_bad n hn (1 : Int32) (1 : Int32) σ2 rσ2 (by first | with_reducible assumption | omega)) (fun r12 h13 => ?_)
    obtain ⟨f14, ri15, pp16⟩ := h13
    have bb17 := wt_bd r12.1
    have bb18 := wt_bd (wt_gf r12.2 108 0)
    have bb19 := wt_bd (wt_gf σ2 108 0)
    refine wt_T_if (fun h20 => ?_) (fun h20 => ?_)
    · skip
      have c21 := wt_ceq h20
      have k22 : (100 : Int32).toInt = 100 := by decide
      refine wt_T_bi (wq_md_greedyAhead n hn (100 : Int32) r12.2 ri15) (fun r23 h24 => ?_)
      obtain ⟨f25, ri26⟩ := h24
      have bb27 := wt_bd r23.1
      refine wt_T_bi (wq_md_putsBack n hn r23.2 ri26) (fun r28 h29 => ?_)
      obtain ⟨f30, ri31⟩ := h29
      refine wt_T_if (fun h32 => ?_) (fun h32 => ?_)
      · skip
        have c33 := wt_ceq h32
        refine wt_T_bi (wq_md_worthOf n hn r23.1 r28 ri31) (fun r34 h35 => ?_)
        have e36 := h35
        have bb37 := wt_bd r34.1
        rw [e36]
        refine wt_T_some ?_
        exact ⟨(wt_fr.tr (wt_fr.tr (wt_fr.tr (wt_fr.tr wt_fr.rf fσ2 (fun i k h => by (try dsimp only at h); exact Or.inl (by first | exact h | omega)) (fun i h => h.elim)) f14 (fun i k h => by (try dsimp only at h); exact Or.inl (by first | exact h | omega)) (fun i h => h.elim)) f25 (fun i k h => by (try dsimp only at h); exact Or.inr (by first | exact h | omega)) (fun i h => by (try dsimp only at h); rcases h with h | h | h | h | h; exact Or.inl (by first | exact h | omega); exact Or.inr (Or.inl (by first | exact h | omega)); exact Or.inr (Or.inr (Or.inl (by first | exact h | omega))); exact Or.inr (Or.inr (Or.inr (Or.inl (by first | exact h | omega)))); exact Or.inr (Or.inr (Or.inr (Or.inr (by first | exact h | omega)))))) f30 (fun i k h => h.elim) (fun i h => by (try dsimp only at h); exact Or.inr (Or.inr (Or.inr (Or.inr (by first | exact h | omega)))))), ri31⟩
      · skip
        have c38 := wt_nceq h32
        refine wt_T_some ?_
        exact ⟨(wt_fr.tr (wt_fr.tr (wt_fr.tr (wt_fr.tr wt_fr.rf fσ2 (fun i k h => by (try dsimp only at h); exact Or.inl (by first | exact h | omega)) (fun i h => h.elim)) f14 (fun i k h => by (try dsimp only at h); exact Or.inl (by first | exact h | omega)) (fun i h => h.elim)) f25 (fun i k h => by (try dsimp only at h); exact Or.inr (by first | exact h | omega)) (fun i h => by (try dsimp only at h); rcases h with h | h | h | h | h; exact Or.inl (by first | exact h | omega); exact Or.inr (Or.inl (by first | exact h | omega)); exact Or.inr (Or.inr (Or.inl (by first | exact h | omega))); exact Or.inr (Or.inr (Or.inr (Or.inl (by first | exact h | omega)))); exact Or.inr (Or.inr (Or.inr (Or.inr (by first | exact h | omega)))))) f30 (fun i k h => h.elim) (fun i h => by (try dsimp only at h); exact Or.inr (Or.inr (Or.inr (Or.inr (by first | exact h | omega)))))), ri31⟩
    · skip
      have c39 := wt_nceq h20
      refine wt_T_some ?_
      exact ⟨(wt_fr.tr (wt_fr.tr wt_fr.rf fσ2 (fun i k h => by (try dsimp only at h); exact Or.inl (by first | exact h | omega)) (fun i h => h.elim)) f14 (fun i k h => by (try dsimp only at h); exact Or.inl (by first | exact h | omega)) (fun i h => h.elim)), ri15⟩
  · skip
    have c40 := wt_nceq h10
    unfold wp_md_greedy_B20
    refine wt_T_bi (wq_md_bad n hn (0 : Int32) (1 : Int32) σ2 rσ2 (by first | with_reducible assumption | omega)) (fun r41 h42 => ?_)
    obtain ⟨f43, ri44, pp45⟩ := h42
    have bb46 := wt_bd r41.1
    have bb47 := wt_bd (wt_gf r41.2 108 0)
    have bb48 := wt_bd (wt_gf σ2 108 0)
    refine wt_T_if (fun h49 => ?_) (fun h49 => ?_)
    · skip
      have c50 := wt_ceq h49
      have k51 : (100 : Int32).toInt = 100 := by decide
      refine wt_T_bi (wq_md_greedyAhead n hn (100 : Int32) r41.2 ri44) (fun r52 h53 => ?_)
      obtain ⟨f54, ri55⟩ := h53
      have bb56 := wt_bd r52.1
      refine wt_T_bi (wq_md_putsBack n hn r52.2 ri55) (fun r57 h58 => ?_)
      obtain ⟨f59, ri60⟩ := h58
      refine wt_T_if (fun h61 => ?_) (fun h61 => ?_)
      · skip
        have c62 := wt_ceq h61
        refine wt_T_bi (wq_md_worthOf n hn r52.1 r57 ri60) (fun r63 h64 => ?_)
        have e65 := h64
        have bb66 := wt_bd r63.1
        rw [e65]
        refine wt_T_some ?_
        exact ⟨(wt_fr.tr (wt_fr.tr (wt_fr.tr (wt_fr.tr wt_fr.rf fσ2 (fun i k h => by (try dsimp only at h); exact Or.inl (by first | exact h | omega)) (fun i h => h.elim)) f43 (fun i k h => by (try dsimp only at h); exact Or.inl (by first | exact h | omega)) (fun i h => h.elim)) f54 (fun i k h => by (try dsimp only at h); exact Or.inr (by first | exact h | omega)) (fun i h => by (try dsimp only at h); rcases h with h | h | h | h | h; exact Or.inl (by first | exact h | omega); exact Or.inr (Or.inl (by first | exact h | omega)); exact Or.inr (Or.inr (Or.inl (by first | exact h | omega))); exact Or.inr (Or.inr (Or.inr (Or.inl (by first | exact h | omega)))); exact Or.inr (Or.inr (Or.inr (Or.inr (by first | exact h | omega)))))) f59 (fun i k h => h.elim) (fun i h => by (try dsimp only at h); exact Or.inr (Or.inr (Or.inr (Or.inr (by first | exact h | omega)))))), ri60⟩
      · skip
        have c67 := wt_nceq h61
        refine wt_T_some ?_
        exact ⟨(wt_fr.tr (wt_fr.tr (wt_fr.tr (wt_fr.tr wt_fr.rf fσ2 (fun i k h => by (try dsimp only at h); exact Or.inl (by first | exact h | omega)) (fun i h => h.elim)) f43 (fun i k h => by (try dsimp only at h); exact Or.inl (by first | exact h | omega)) (fun i h => h.elim)) f54 (fun i k h => by (try dsimp only at h); exact Or.inr (by first | exact h | omega)) (fun i h => by (try dsimp only at h); rcases h with h | h | h | h | h; exact Or.inl (by first | exact h | omega); exact Or.inr (Or.inl (by first | exact h | omega)); exact Or.inr (Or.inr (Or.inl (by first | exact h | omega))); exact Or.inr (Or.inr (Or.inr (Or.inl (by first | exact h | omega)))); exact Or.inr (Or.inr (Or.inr (Or.inr (by first | exact h | omega)))))) f59 (fun i k h => h.elim) (fun i h => by (try dsimp only at h); exact Or.inr (Or.inr (Or.inr (Or.inr (by first | exact h | omega)))))), ri60⟩
    · skip
      have c68 := wt_nceq h49
      refine wt_T_some ?_
      exact ⟨(wt_fr.tr (wt_fr.tr wt_fr.rf fσ2 (fun i k h => by (try dsimp only at h); exact Or.inl (by first | exact h | omega)) (fun i h => h.elim)) f43 (fun i k h => by (try dsimp only at h); exact Or.inl (by first | exact h | omega)) (fun i h => h.elim)), ri44⟩
set_option maxRecDepth 100000 in
set_option maxHeartbeats 4000000 in
theorem wq_md_habit (n : Nat) (hn : 4294967297 < n) (x1 : Int32) (σ : wt_St) (r0 : wt_RI σ) : wt_T (wp_md_habit n x1 σ) (fun q => wt_fr (fun i k => (i = 108 ∧ k = 0) ∨ (i = 108 ∧ k = 26)) (fun i => False) σ q.2 ∧ wt_RI q.2) := by
  have bb1 := wt_bd x1
  unfold wp_md_habit
  obtain ⟨σ2, eσ2⟩ : ∃ z : wt_St, z = wt_sf σ 108 0 (0 : Int32) := ⟨_, rfl⟩
  rw [← eσ2]
  have fσ2 := wt_fr_sf eσ2
  have vσ2 := wt_ceq (wt_v_sf eσ2)
  have k3 : (0 : Int32).toInt = 0 := by decide
  have rσ2 := wt_RI_fno r0 eσ2 (Or.inr (by decide +kernel))
  have k4 : (1 : Int32).toInt = 1 := by decide
  refine wt_T_bi (wq_md_in n hn x1 (0 : Int32) (1 : Int32) σ2 rσ2) (fun r5 h6 => ?_)
  obtain ⟨e7, pp8⟩ := h6
  have bb9 := wt_bd r5.1
  rw [e7]
  refine wt_T_if (fun h10 => ?_) (fun h10 => ?_)
  · skip
    have c11 := wt_ceq h10
    unfold wp_md_habit_B20
    refine wt_T_bi (wq_md_bad n hn (1 : Int32) (1 : Int32) σ2 rσ2 (by first | with_reducible assumption | omega)) (fun r12 h13 => ?_)
    obtain ⟨f14, ri15, pp16⟩ := h13
    have bb17 := wt_bd r12.1
    have bb18 := wt_bd (wt_gf r12.2 108 0)
    have bb19 := wt_bd (wt_gf σ2 108 0)
    refine wt_T_if (fun h20 => ?_) (fun h20 => ?_)
    · skip
      have c21 := wt_ceq h20
      obtain ⟨σ22, eσ22⟩ : ∃ z : wt_St, z = wt_sf r12.2 108 26 x1 := ⟨_, rfl⟩
      rw [← eσ22]
      have fσ22 := wt_fr_sf eσ22
      have vσ22 := wt_ceq (wt_v_sf eσ22)
      have rσ22 := wt_RI_fno ri15 eσ22 (Or.inr (by decide +kernel))
      refine wt_T_some ?_
      exact ⟨(wt_fr.tr (wt_fr.tr (wt_fr.tr wt_fr.rf fσ2 (fun i k h => by (try dsimp only at h); exact Or.inl (by first | exact h | omega)) (fun i h => h.elim)) f14 (fun i k h => by (try dsimp only at h); exact Or.inl (by first | exact h | omega)) (fun i h => h.elim)) fσ22 (fun i k h => by (try dsimp only at h); exact Or.inr (by first | exact h | omega)) (fun i h => h.elim)), rσ22⟩
    · skip
      have c23 := wt_nceq h20
      refine wt_T_some ?_
      exact ⟨(wt_fr.tr (wt_fr.tr wt_fr.rf fσ2 (fun i k h => by (try dsimp only at h); exact Or.inl (by first | exact h | omega)) (fun i h => h.elim)) f14 (fun i k h => by (try dsimp only at h); exact Or.inl (by first | exact h | omega)) (fun i h => h.elim)), ri15⟩
  · skip
    have c24 := wt_nceq h10
    unfold wp_md_habit_B20
    refine wt_T_bi (wq_md_bad n hn (0 : Int32) (1 : Int32) σ2 rσ2 (by first | with_reducible assumption | omega)) (fun r25 h26 => ?_)
    obtain ⟨f27, ri28, pp29⟩ := h26
    have bb30 := wt_bd r25.1
    have bb31 := wt_bd (wt_gf r25.2 108 0)
    have bb32 := wt_bd (wt_gf σ2 108 0)
    refine wt_T_if (fun h33 => ?_) (fun h33 => ?_)
    · skip
      have c34 := wt_ceq h33
      obtain ⟨σ35, eσ35⟩ : ∃ z : wt_St, z = wt_sf r25.2 108 26 x1 := ⟨_, rfl⟩
      rw [← eσ35]
      have fσ35 := wt_fr_sf eσ35
      have vσ35 := wt_ceq (wt_v_sf eσ35)
      have rσ35 := wt_RI_fno ri28 eσ35 (Or.inr (by decide +kernel))
      refine wt_T_some ?_
      exact ⟨(wt_fr.tr (wt_fr.tr (wt_fr.tr wt_fr.rf fσ2 (fun i k h => by (try dsimp only at h); exact Or.inl (by first | exact h | omega)) (fun i h => h.elim)) f27 (fun i k h => by (try dsimp only at h); exact Or.inl (by first | exact h | omega)) (fun i h => h.elim)) fσ35 (fun i k h => by (try dsimp only at h); exact Or.inr (by first | exact h | omega)) (fun i h => h.elim)), rσ35⟩
    · skip
      have c36 := wt_nceq h33
      refine wt_T_some ?_
      exact ⟨(wt_fr.tr (wt_fr.tr wt_fr.rf fσ2 (fun i k h => by (try dsimp only at h); exact Or.inl (by first | exact h | omega)) (fun i h => h.elim)) f27 (fun i k h => by (try dsimp only at h); exact Or.inl (by first | exact h | omega)) (fun i h => h.elim)), ri28⟩
set_option maxRecDepth 100000 in
set_option maxHeartbeats 4000000 in
theorem wq_md_isLetter (n : Nat) (hn : 4294967297 < n) (x0 : Int32) (σ : wt_St) (r0 : wt_RI σ) : wt_T (wp_md_isLetter n x0 σ) (fun q => q.2 = σ ∧ ((q.1.toInt = 0 ∧ (x0.toInt < 0 ∨ 25 < x0.toInt)) ∨ (q.1.toInt = 1 ∧ 0 ≤ x0.toInt ∧ x0.toInt ≤ 25))) := by
  have bb1 := wt_bd x0
  unfold wp_md_isLetter
  have k2 : (0 : Int32).toInt = 0 := by decide
  have k3 : (25 : Int32).toInt = 25 := by decide
  refine wt_T_bi (wq_md_in n hn x0 (0 : Int32) (25 : Int32) σ r0) (fun r4 h5 => ?_)
  obtain ⟨e6, pp7⟩ := h5
  have bb8 := wt_bd r4.1
  rw [e6]
  refine wt_T_some ?_
  exact ⟨rfl, (show ((r4.1.toInt = 0 ∧ (x0.toInt < 0 ∨ 25 < x0.toInt)) ∨ (r4.1.toInt = 1 ∧ 0 ≤ x0.toInt ∧ x0.toInt ≤ 25)) from by omega)⟩
set_option maxRecDepth 100000 in
set_option maxHeartbeats 4000000 in
theorem wq_md_isWeek (n : Nat) (hn : 4294967297 < n) (x0 : Int32) (σ : wt_St) (r0 : wt_RI σ) : wt_T (wp_md_isWeek n x0 σ) (fun q => q.2 = σ ∧ ((q.1.toInt = 0 ∧ (x0.toInt < 0 ∨ 100 < x0.toInt)) ∨ (q.1.toInt = 1 ∧ 0 ≤ x0.toInt ∧ x0.toInt ≤ 100))) := by
  have bb1 := wt_bd x0
  unfold wp_md_isWeek
  have k2 : (0 : Int32).toInt = 0 := by decide
  have k3 : (100 : Int32).toInt = 100 := by decide
  refine wt_T_bi (wq_md_in n hn x0 (0 : Int32) (100 : Int32) σ r0) (fun r4 h5 => ?_)
  obtain ⟨e6, pp7⟩ := h5
  have bb8 := wt_bd r4.1
  rw [e6]
  refine wt_T_some ?_
  exact ⟨rfl, (show ((r4.1.toInt = 0 ∧ (x0.toInt < 0 ∨ 100 < x0.toInt)) ∨ (r4.1.toInt = 1 ∧ 0 ≤ x0.toInt ∧ x0.toInt ≤ 100)) from by omega)⟩
set_option maxRecDepth 100000 in
set_option maxHeartbeats 4000000 in
theorem wq_md_starts (n : Nat) (hn : 4294967297 < n) (x1 : Int32) (σ : wt_St) (r0 : wt_RI σ) (p0 : 0 ≤ x1.toInt) (p1 : x1.toInt ≤ 500) : wt_T (wp_md_starts n x1 σ) (fun q => wt_fr (fun i k => (i = 108 ∧ k = 1) ∨ (i = 108 ∧ k = 2) ∨ (i = 108 ∧ k = 4) ∨ (i = 108 ∧ k = 5) ∨ (i = 108 ∧ k = 6) ∨ (i = 108 ∧ k = 7)) (fun i => False) σ q ∧ wt_RI q ∧ ((wt_gf q 108 1).toInt = 0 ∧ (wt_gf q 108 5).toInt = 0 ∧ (wt_gf q 108 7).toInt = 0)) := by
  have bb1 := wt_bd x1
  unfold wp_md_starts
  obtain ⟨σ2, eσ2⟩ : ∃ z : wt_St, z = wt_sf σ 108 1 (0 : Int32) := ⟨_, rfl⟩
  rw [← eσ2]
  have fσ2 := wt_fr_sf eσ2
  have vσ2 := wt_ceq (wt_v_sf eσ2)
  have k3 : (0 : Int32).toInt = 0 := by decide
  have rσ2 := wt_Rm0 r0 eσ2 (show 0 ≤ ((0 : Int32)).toInt by omega) (show ((0 : Int32)).toInt ≤ 500 by omega)
  obtain ⟨σ4, eσ4⟩ : ∃ z : wt_St, z = wt_sf σ2 108 2 x1 := ⟨_, rfl⟩
  rw [← eσ4]
  have fσ4 := wt_fr_sf eσ4
  have vσ4 := wt_ceq (wt_v_sf eσ4)
  have rσ4 := wt_Rm1 rσ2 eσ4 (show 0 ≤ (x1).toInt by omega) (show (x1).toInt ≤ 500 by omega)
  obtain ⟨σ5, eσ5⟩ : ∃ z : wt_St, z = wt_sf σ4 108 4 (0 : Int32) := ⟨_, rfl⟩
  rw [← eσ5]
  have fσ5 := wt_fr_sf eσ5
  have vσ5 := wt_ceq (wt_v_sf eσ5)
  have rσ5 := wt_Rm2 rσ4 eσ5 (show 0 ≤ ((0 : Int32)).toInt by omega) (show ((0 : Int32)).toInt ≤ 500 by omega)
  obtain ⟨σ6, eσ6⟩ : ∃ z : wt_St, z = wt_sf σ5 108 5 (0 : Int32) := ⟨_, rfl⟩
  rw [← eσ6]
  have fσ6 := wt_fr_sf eσ6
  have vσ6 := wt_ceq (wt_v_sf eσ6)
  have rσ6 := wt_Rm3 rσ5 eσ6 (show 0 ≤ ((0 : Int32)).toInt by omega) (show ((0 : Int32)).toInt ≤ 3 by omega)
  obtain ⟨σ7, eσ7⟩ : ∃ z : wt_St, z = wt_sf σ6 108 6 (-1 : Int32) := ⟨_, rfl⟩
  rw [← eσ7]
  have fσ7 := wt_fr_sf eσ7
  have vσ7 := wt_ceq (wt_v_sf eσ7)
  have rσ7 := wt_RI_fno rσ6 eσ7 (Or.inr (by decide +kernel))
  obtain ⟨σ8, eσ8⟩ : ∃ z : wt_St, z = wt_sf σ7 108 7 (0 : Int32) := ⟨_, rfl⟩
  rw [← eσ8]
  have fσ8 := wt_fr_sf eσ8
  have vσ8 := wt_ceq (wt_v_sf eσ8)
  have rσ8 := wt_Rm4 rσ7 eσ8 (show 0 ≤ ((0 : Int32)).toInt by omega) (show ((0 : Int32)).toInt ≤ 60 by omega)
  refine wt_T_bi (wq_md_blanks n hn σ8 rσ8) (fun r9 h10 => ?_)
  obtain ⟨f11, ri12, pp13⟩ := h10
  have g15 : 0 ≤ (wt_gf σ8 108 4).toInt ∧ (wt_gf σ8 108 4).toInt ≤ 500 := wt_Rf2 rσ8
  have tt16 : (wt_gf σ8 108 4).toInt = (wt_gf σ7 108 4).toInt := congrArg Int32.toInt (fσ8.1 108 4 (by (try dsimp only); omega))
  have tt19 : (wt_gf σ7 108 4).toInt = (wt_gf σ6 108 4).toInt := congrArg Int32.toInt (fσ7.1 108 4 (by (try dsimp only); omega))
  have tt22 : (wt_gf σ6 108 4).toInt = (wt_gf σ5 108 4).toInt := congrArg Int32.toInt (fσ6.1 108 4 (by (try dsimp only); omega))
  have g26 : 0 ≤ (wt_gf r9 108 4).toInt ∧ (wt_gf r9 108 4).toInt ≤ 500 := wt_Rf2 ri12
  refine wt_T_some ?_
  have g28 : 0 ≤ (wt_gf r9 108 1).toInt ∧ (wt_gf r9 108 1).toInt ≤ 500 := wt_Rf0 ri12
  have tt29 : (wt_gf r9 108 1).toInt = (wt_gf σ8 108 1).toInt := congrArg Int32.toInt (f11.1 108 1 (by (try dsimp only); omega))
  have tt32 : (wt_gf σ8 108 1).toInt = (wt_gf σ7 108 1).toInt := congrArg Int32.toInt (fσ8.1 108 1 (by (try dsimp only); omega))
  have tt35 : (wt_gf σ7 108 1).toInt = (wt_gf σ6 108 1).toInt := congrArg Int32.toInt (fσ7.1 108 1 (by (try dsimp only); omega))
  have tt38 : (wt_gf σ6 108 1).toInt = (wt_gf σ5 108 1).toInt := congrArg Int32.toInt (fσ6.1 108 1 (by (try dsimp only); omega))
  have tt41 : (wt_gf σ5 108 1).toInt = (wt_gf σ4 108 1).toInt := congrArg Int32.toInt (fσ5.1 108 1 (by (try dsimp only); omega))
  have tt44 : (wt_gf σ4 108 1).toInt = (wt_gf σ2 108 1).toInt := congrArg Int32.toInt (fσ4.1 108 1 (by (try dsimp only); omega))
  have g48 : 0 ≤ (wt_gf r9 108 5).toInt ∧ (wt_gf r9 108 5).toInt ≤ 3 := wt_Rf3 ri12
  have tt49 : (wt_gf r9 108 5).toInt = (wt_gf σ8 108 5).toInt := congrArg Int32.toInt (f11.1 108 5 (by (try dsimp only); omega))
  have tt52 : (wt_gf σ8 108 5).toInt = (wt_gf σ7 108 5).toInt := congrArg Int32.toInt (fσ8.1 108 5 (by (try dsimp only); omega))
  have tt55 : (wt_gf σ7 108 5).toInt = (wt_gf σ6 108 5).toInt := congrArg Int32.toInt (fσ7.1 108 5 (by (try dsimp only); omega))
  have g59 : 0 ≤ (wt_gf r9 108 7).toInt ∧ (wt_gf r9 108 7).toInt ≤ 60 := wt_Rf4 ri12
  have tt60 : (wt_gf r9 108 7).toInt = (wt_gf σ8 108 7).toInt := congrArg Int32.toInt (f11.1 108 7 (by (try dsimp only); omega))
  exact ⟨(wt_fr.tr (wt_fr.tr (wt_fr.tr (wt_fr.tr (wt_fr.tr (wt_fr.tr (wt_fr.tr wt_fr.rf fσ2 (fun i k h => by (try dsimp only at h); exact Or.inl (by first | exact h | omega)) (fun i h => h.elim)) fσ4 (fun i k h => by (try dsimp only at h); exact Or.inr (Or.inl (by first | exact h | omega))) (fun i h => h.elim)) fσ5 (fun i k h => by (try dsimp only at h); exact Or.inr (Or.inr (Or.inl (by first | exact h | omega)))) (fun i h => h.elim)) fσ6 (fun i k h => by (try dsimp only at h); exact Or.inr (Or.inr (Or.inr (Or.inl (by first | exact h | omega))))) (fun i h => h.elim)) fσ7 (fun i k h => by (try dsimp only at h); exact Or.inr (Or.inr (Or.inr (Or.inr (Or.inl (by first | exact h | omega)))))) (fun i h => h.elim)) fσ8 (fun i k h => by (try dsimp only at h); exact Or.inr (Or.inr (Or.inr (Or.inr (Or.inr (by first | exact h | omega)))))) (fun i h => h.elim)) f11 (fun i k h => by (try dsimp only at h); exact Or.inr (Or.inr (Or.inl (by first | exact h | omega)))) (fun i h => h.elim)), ri12, (show ((wt_gf r9 108 1).toInt = 0 ∧ (wt_gf r9 108 5).toInt = 0 ∧ (wt_gf r9 108 7).toInt = 0) from by omega)⟩
set_option maxRecDepth 100000 in
set_option maxHeartbeats 4000000 in
theorem wq_md_takesCase (n : Nat) (hn : 4294967297 < n) (σ : wt_St) (r0 : wt_RI σ) (m0 : wt_M12 σ) : wt_T (wp_md_takesCase n σ) (fun q => wt_fr (fun i k => (i = 108 ∧ k = 25)) (fun i => i = 121 ∨ i = 123 ∨ i = 124 ∨ i = 119 ∨ i = 111 ∨ i = 113 ∨ i = 115 ∨ i = 117) σ q ∧ wt_RI q ∧ wt_M12 q) := by
  unfold wp_md_takesCase
  have k8 : (0 : Int32).toInt = 0 := by decide
  refine wt_T_it (fun s : Int32 × wt_St => wt_fr (fun i k => False) (fun i => i = 111 ∨ i = 113 ∨ i = 115 ∨ i = 117) σ s.2 ∧ 0 ≤ (s.1).toInt ∧ wt_RI s.2 ∧ wt_M12 s.2) (fun s : Int32 × wt_St => ((26 : Int32).toInt - s.1.toInt + 0).toNat) (fun KK1 z2 I3 hKK1 => ?_) _ _ ?_ ?_
  · skip
    obtain ⟨l4, l5, l6, l7⟩ := I3
    unfold wp_md_takesCase_B2
    have k9 : (26 : Int32).toInt = 26 := by decide
    have bb10 := wt_bd z2.1
    refine wt_T_if (fun h11 => ?_) (fun h11 => ?_)
    · skip
      have c12 := wt_cle h11
      refine wt_T_it (fun s : Int32 × wt_St => wt_fr (fun i k => False) (fun i => i = 119) z2.2 s.2 ∧ 0 ≤ (s.1).toInt ∧ wt_RI s.2 ∧ wt_M12 s.2) (fun s : Int32 × wt_St => ((4 : Int32).toInt - s.1.toInt + 0).toNat) (fun KK13 z14 I15 hKK13 => ?_) _ _ ?_ ?_
      · skip
        obtain ⟨l16, l17, l18, l19⟩ := I15
        unfold wp_md_takesCase_B64
        have k20 : (4 : Int32).toInt = 4 := by decide
        have bb21 := wt_bd z14.1
        refine wt_T_if (fun h22 => ?_) (fun h22 => ?_)
        · skip
          have c23 := wt_cle h22
          refine wt_T_it (fun s : Int32 × wt_St => wt_fr (fun i k => False) (fun i => i = 121 ∨ i = 123 ∨ i = 124) z14.2 s.2 ∧ 0 ≤ (s.1).toInt ∧ wt_RI s.2 ∧ wt_M12 s.2) (fun s : Int32 × wt_St => ((338 : Int32).toInt - s.1.toInt + 0).toNat) (fun KK24 z25 I26 hKK24 => ?_) _ _ ?_ ?_
          · skip
            obtain ⟨l27, l28, l29, l30⟩ := I26
            unfold wp_md_takesCase_B89
            have k31 : (338 : Int32).toInt = 338 := by decide
            have bb32 := wt_bd z25.1
            refine wt_T_if (fun h33 => ?_) (fun h33 => ?_)
            · skip
              have c34 := wt_cle h33
              obtain ⟨σ35, eσ35⟩ : ∃ z : wt_St, z = wt_sf z25.2 108 25 (wt_gf z25.2 108 24) := ⟨_, rfl⟩
              rw [← eσ35]
              have fσ35 := wt_fr_sf eσ35
              have vσ35 := wt_ceq (wt_v_sf eσ35)
              have bb36 := wt_bd (wt_gf z25.2 108 24)
              have tt37 : (wt_gf z25.2 108 24).toInt = (wt_gf z14.2 108 24).toInt := congrArg Int32.toInt (l27.1 108 24 (fun z => z))
              have bb38 := wt_bd (wt_gf z14.2 108 24)
              have tt39 : (wt_gf z14.2 108 24).toInt = (wt_gf z2.2 108 24).toInt := congrArg Int32.toInt (l16.1 108 24 (fun z => z))
              have bb40 := wt_bd (wt_gf z2.2 108 24)
              have tt41 : (wt_gf z2.2 108 24).toInt = (wt_gf σ 108 24).toInt := congrArg Int32.toInt (l4.1 108 24 (fun z => z))
              have bb42 := wt_bd (wt_gf σ 108 24)
              have mσ35 := wt_M_sf l30 eσ35
              have rσ35 := wt_RI_fno l29 eσ35 (Or.inr (by decide +kernel))
              refine wt_T_some ?_
              exact ⟨(wt_fr.tr (wt_fr.tr (wt_fr.tr (wt_fr.tr wt_fr.rf l4 (fun i k h => h.elim) (fun i h => by (try dsimp only at h); rcases h with h | h | h | h; exact Or.inr (Or.inr (Or.inr (Or.inr (Or.inl (by first | exact h | omega))))); exact Or.inr (Or.inr (Or.inr (Or.inr (Or.inr (Or.inl (by first | exact h | omega)))))); exact Or.inr (Or.inr (Or.inr (Or.inr (Or.inr (Or.inr (Or.inl (by first | exact h | omega))))))); exact Or.inr (Or.inr (Or.inr (Or.inr (Or.inr (Or.inr (Or.inr (by first | exact h | omega))))))))) l16 (fun i k h => h.elim) (fun i h => by (try dsimp only at h); exact Or.inr (Or.inr (Or.inr (Or.inl (by first | exact h | omega)))))) l27 (fun i k h => h.elim) (fun i h => by (try dsimp only at h); rcases h with h | h | h; exact Or.inl (by first | exact h | omega); exact Or.inr (Or.inl (by first | exact h | omega)); exact Or.inr (Or.inr (Or.inl (by first | exact h | omega))))) fσ35 (fun i k h => by (try dsimp only at h); exact (by first | exact h | omega)) (fun i h => h.elim)), rσ35, mσ35⟩
            · skip
              have c43 := wt_ncle h33
              refine wt_T_gd (wt_ix (by first | with_reducible assumption | omega) (by first | with_reducible assumption | omega)) ?_
              refine wt_T_gd (wt_ix (by first | with_reducible assumption | omega) (by first | with_reducible assumption | omega)) ?_
              refine wt_T_gd (wt_ix (by first | with_reducible assumption | omega) (by first | with_reducible assumption | omega)) ?_
              refine wt_T_gd (wt_ix (by first | with_reducible assumption | omega) (by first | with_reducible assumption | omega)) ?_
              refine wt_T_gd (wt_ix (by first | with_reducible assumption | omega) (by first | with_reducible assumption | omega)) ?_
              obtain ⟨σ44, eσ44⟩ : ∃ z : wt_St, z = wt_sa z25.2 121 (Int32.toNatClampNeg z25.1) (wt_ga z25.2 120 (Int32.toNatClampNeg z25.1)) := ⟨_, rfl⟩
              rw [← eσ44]
              have fσ44 := wt_fr_sa eσ44
              have vσ44 := wt_ceq (wt_v_sa eσ44)
              have bb45 := wt_tn z25.1
              have g47 : 0 ≤ (wt_ga z25.2 120 (Int32.toNatClampNeg z25.1)).toInt ∧ (wt_ga z25.2 120 (Int32.toNatClampNeg z25.1)).toInt ≤ 400 := wt_Ra3 l29 120 (by decide) (by decide) (Int32.toNatClampNeg z25.1)
              have tt48 : (wt_ga z25.2 120 (Int32.toNatClampNeg z25.1)).toInt = (wt_ga z14.2 120 (Int32.toNatClampNeg z25.1)).toInt := congrArg Int32.toInt (l27.2 120 (by (try dsimp only); omega) (Int32.toNatClampNeg z25.1))
              have tt51 : (wt_ga z14.2 120 (Int32.toNatClampNeg z25.1)).toInt = (wt_ga z2.2 120 (Int32.toNatClampNeg z25.1)).toInt := congrArg Int32.toInt (l16.2 120 (by (try dsimp only); omega) (Int32.toNatClampNeg z25.1))
              have tt54 : (wt_ga z2.2 120 (Int32.toNatClampNeg z25.1)).toInt = (wt_ga σ 120 (Int32.toNatClampNeg z25.1)).toInt := congrArg Int32.toInt (l4.2 120 (by (try dsimp only); omega) (Int32.toNatClampNeg z25.1))
              have mσ44 := wt_M_no l30 eσ44 (by first | decide | omega)
              have rσ44 := wt_Rn3 l29 eσ44 (by decide) (by decide) (show 0 ≤ (wt_ga z25.2 120 (Int32.toNatClampNeg z25.1)).toInt by omega) (show (wt_ga z25.2 120 (Int32.toNatClampNeg z25.1)).toInt ≤ 400 by omega)
              obtain ⟨σ57, eσ57⟩ : ∃ z : wt_St, z = wt_sa σ44 123 (Int32.toNatClampNeg z25.1) (wt_ga σ44 122 (Int32.toNatClampNeg z25.1)) := ⟨_, rfl⟩
              rw [← eσ57]
              have fσ57 := wt_fr_sa eσ57
              have vσ57 := wt_ceq (wt_v_sa eσ57)
              have g59 : 0 ≤ (wt_ga σ44 122 (Int32.toNatClampNeg z25.1)).toInt ∧ (wt_ga σ44 122 (Int32.toNatClampNeg z25.1)).toInt ≤ 400 := wt_Ra4 rσ44 122 (by decide) (by decide) (Int32.toNatClampNeg z25.1)
              have tt60 : (wt_ga σ44 122 (Int32.toNatClampNeg z25.1)).toInt = (wt_ga z25.2 122 (Int32.toNatClampNeg z25.1)).toInt := congrArg Int32.toInt (fσ44.2 122 (by (try dsimp only); omega) (Int32.toNatClampNeg z25.1))
              have tt63 : (wt_ga z25.2 122 (Int32.toNatClampNeg z25.1)).toInt = (wt_ga z14.2 122 (Int32.toNatClampNeg z25.1)).toInt := congrArg Int32.toInt (l27.2 122 (by (try dsimp only); omega) (Int32.toNatClampNeg z25.1))
              have tt66 : (wt_ga z14.2 122 (Int32.toNatClampNeg z25.1)).toInt = (wt_ga z2.2 122 (Int32.toNatClampNeg z25.1)).toInt := congrArg Int32.toInt (l16.2 122 (by (try dsimp only); omega) (Int32.toNatClampNeg z25.1))
              have tt69 : (wt_ga z2.2 122 (Int32.toNatClampNeg z25.1)).toInt = (wt_ga σ 122 (Int32.toNatClampNeg z25.1)).toInt := congrArg Int32.toInt (l4.2 122 (by (try dsimp only); omega) (Int32.toNatClampNeg z25.1))
              have mσ57 := wt_M_no mσ44 eσ57 (by first | decide | omega)
              have rσ57 := wt_Rn4 rσ44 eσ57 (by decide) (by decide) (show 0 ≤ (wt_ga σ44 122 (Int32.toNatClampNeg z25.1)).toInt by omega) (show (wt_ga σ44 122 (Int32.toNatClampNeg z25.1)).toInt ≤ 400 by omega)
              obtain ⟨σ72, eσ72⟩ : ∃ z : wt_St, z = wt_sa σ57 124 (Int32.toNatClampNeg z25.1) (-1 : Int32) := ⟨_, rfl⟩
              rw [← eσ72]
              have fσ72 := wt_fr_sa eσ72
              have vσ72 := wt_ceq (wt_v_sa eσ72)
              have mσ72 := wt_M_no mσ57 eσ72 (by first | decide | omega)
              have rσ72 := wt_RI_no rσ57 eσ72 124 125 (by decide +kernel) (by decide) (by decide)
              refine hKK24 _ ⟨(wt_fr.tr (wt_fr.tr (wt_fr.tr (wt_fr.tr wt_fr.rf l27 (fun i k h => h.elim) (fun i h => by (try dsimp only at h); rcases h with h | h | h; exact Or.inl (by first | exact h | omega); exact Or.inr (Or.inl (by first | exact h | omega)); exact Or.inr (Or.inr (by first | exact h | omega)))) fσ44 (fun i k h => h.elim) (fun i h => by (try dsimp only at h); exact Or.inl (by first | exact h | omega))) fσ57 (fun i k h => h.elim) (fun i h => by (try dsimp only at h); exact Or.inr (Or.inl (by first | exact h | omega)))) fσ72 (fun i k h => h.elim) (fun i h => by (try dsimp only at h); exact Or.inr (Or.inr (by first | exact h | omega)))), (wt_nn (B := (338 : Int32)) (by first | with_reducible assumption | omega) (by first | with_reducible assumption | omega)), rσ72, mσ72⟩ ?_
              show ((338 : Int32).toInt - (z25.1 + (1 : Int32)).toInt + 0).toNat < ((338 : Int32).toInt - z25.1.toInt + 0).toNat
              exact wt_mu (by first | with_reducible assumption | omega) (by first | with_reducible assumption | omega)
          · skip
            have k73 : (338 : Int32).toInt = 338 := by decide
            exact ⟨wt_fr.rf, (show 0 ≤ ((0 : Int32)).toInt by omega), l18, l19⟩
          · skip
            have k74 : (338 : Int32).toInt = 338 := by decide
            show ((338 : Int32).toInt - (0 : Int32).toInt + 0).toNat < n
            omega
        · skip
          have c75 := wt_ncle h22
          refine wt_T_gd (wt_ix (by first | with_reducible assumption | omega) (by first | with_reducible assumption | omega)) ?_
          refine wt_T_gd (wt_ix (by first | with_reducible assumption | omega) (by first | with_reducible assumption | omega)) ?_
          obtain ⟨σ76, eσ76⟩ : ∃ z : wt_St, z = wt_sa z14.2 119 (Int32.toNatClampNeg z14.1) (wt_ga z14.2 118 (Int32.toNatClampNeg z14.1)) := ⟨_, rfl⟩
          rw [← eσ76]
          have fσ76 := wt_fr_sa eσ76
          have vσ76 := wt_ceq (wt_v_sa eσ76)
          have bb77 := wt_tn z14.1
          have bb78 := wt_bd (wt_ga z14.2 118 (Int32.toNatClampNeg z14.1))
          have tt79 : (wt_ga z14.2 118 (Int32.toNatClampNeg z14.1)).toInt = (wt_ga z2.2 118 (Int32.toNatClampNeg z14.1)).toInt := congrArg Int32.toInt (l16.2 118 (by (try dsimp only); omega) (Int32.toNatClampNeg z14.1))
          have bb80 := wt_bd (wt_ga z2.2 118 (Int32.toNatClampNeg z14.1))
          have tt81 : (wt_ga z2.2 118 (Int32.toNatClampNeg z14.1)).toInt = (wt_ga σ 118 (Int32.toNatClampNeg z14.1)).toInt := congrArg Int32.toInt (l4.2 118 (by (try dsimp only); omega) (Int32.toNatClampNeg z14.1))
          have bb82 := wt_bd (wt_ga σ 118 (Int32.toNatClampNeg z14.1))
          have mσ76 := wt_M_no l19 eσ76 (by first | decide | omega)
          have rσ76 := wt_RI_no l18 eσ76 119 120 (by decide +kernel) (by decide) (by decide)
          refine hKK13 _ ⟨(wt_fr.tr (wt_fr.tr wt_fr.rf l16 (fun i k h => h.elim) (fun i h => by (try dsimp only at h); exact (by first | exact h | omega))) fσ76 (fun i k h => h.elim) (fun i h => by (try dsimp only at h); exact (by first | exact h | omega))), (wt_nn (B := (4 : Int32)) (by first | with_reducible assumption | omega) (by first | with_reducible assumption | omega)), rσ76, mσ76⟩ ?_
          show ((4 : Int32).toInt - (z14.1 + (1 : Int32)).toInt + 0).toNat < ((4 : Int32).toInt - z14.1.toInt + 0).toNat
          exact wt_mu (by first | with_reducible assumption | omega) (by first | with_reducible assumption | omega)
      · skip
        have k83 : (4 : Int32).toInt = 4 := by decide
        exact ⟨wt_fr.rf, (show 0 ≤ ((0 : Int32)).toInt by omega), l6, l7⟩
      · skip
        have k84 : (4 : Int32).toInt = 4 := by decide
        show ((4 : Int32).toInt - (0 : Int32).toInt + 0).toNat < n
        omega
    · skip
      have c85 := wt_ncle h11
      refine wt_T_gd (wt_ix (by first | with_reducible assumption | omega) (by first | with_reducible assumption | omega)) ?_
      refine wt_T_gd (wt_ix (by first | with_reducible assumption | omega) (by first | with_reducible assumption | omega)) ?_
      refine wt_T_gd (wt_ix (by first | with_reducible assumption | omega) (by first | with_reducible assumption | omega)) ?_
      refine wt_T_gd (wt_ix (by first | with_reducible assumption | omega) (by first | with_reducible assumption | omega)) ?_
      refine wt_T_gd (wt_ix (by first | with_reducible assumption | omega) (by first | with_reducible assumption | omega)) ?_
      refine wt_T_gd (wt_ix (by first | with_reducible assumption | omega) (by first | with_reducible assumption | omega)) ?_
      refine wt_T_gd (wt_ix (by first | with_reducible assumption | omega) (by first | with_reducible assumption | omega)) ?_
      refine wt_T_gd (wt_ix (by first | with_reducible assumption | omega) (by first | with_reducible assumption | omega)) ?_
      obtain ⟨σ86, eσ86⟩ : ∃ z : wt_St, z = wt_sa z2.2 111 (Int32.toNatClampNeg z2.1) (wt_ga z2.2 110 (Int32.toNatClampNeg z2.1)) := ⟨_, rfl⟩
      rw [← eσ86]
      have fσ86 := wt_fr_sa eσ86
      have vσ86 := wt_ceq (wt_v_sa eσ86)
      have bb87 := wt_tn z2.1
      have g89 : 0 ≤ (wt_ga z2.2 110 (Int32.toNatClampNeg z2.1)).toInt ∧ (wt_ga z2.2 110 (Int32.toNatClampNeg z2.1)).toInt ≤ 12 := wt_Ra0 l6 110 (by decide) (by decide) (Int32.toNatClampNeg z2.1)
      have tt90 : (wt_ga z2.2 110 (Int32.toNatClampNeg z2.1)).toInt = (wt_ga σ 110 (Int32.toNatClampNeg z2.1)).toInt := congrArg Int32.toInt (l4.2 110 (by (try dsimp only); omega) (Int32.toNatClampNeg z2.1))
      have mσ86 := wt_M_in l7 eσ86 (by first | with_reducible assumption | omega)
      have rσ86 := wt_Rn1 l6 eσ86 (by decide) (by decide) (show 0 ≤ (wt_ga z2.2 110 (Int32.toNatClampNeg z2.1)).toInt by omega) (show (wt_ga z2.2 110 (Int32.toNatClampNeg z2.1)).toInt ≤ 13 by omega)
      obtain ⟨σ93, eσ93⟩ : ∃ z : wt_St, z = wt_sa σ86 113 (Int32.toNatClampNeg z2.1) (wt_ga σ86 112 (Int32.toNatClampNeg z2.1)) := ⟨_, rfl⟩
      rw [← eσ93]
      have fσ93 := wt_fr_sa eσ93
      have vσ93 := wt_ceq (wt_v_sa eσ93)
      have g95 : 0 ≤ (wt_ga σ86 112 (Int32.toNatClampNeg z2.1)).toInt ∧ (wt_ga σ86 112 (Int32.toNatClampNeg z2.1)).toInt ≤ 12 := wt_Ra2 rσ86 112 (by decide) (by decide) (Int32.toNatClampNeg z2.1)
      have tt96 : (wt_ga σ86 112 (Int32.toNatClampNeg z2.1)).toInt = (wt_ga z2.2 112 (Int32.toNatClampNeg z2.1)).toInt := congrArg Int32.toInt (fσ86.2 112 (by (try dsimp only); omega) (Int32.toNatClampNeg z2.1))
      have tt99 : (wt_ga z2.2 112 (Int32.toNatClampNeg z2.1)).toInt = (wt_ga σ 112 (Int32.toNatClampNeg z2.1)).toInt := congrArg Int32.toInt (l4.2 112 (by (try dsimp only); omega) (Int32.toNatClampNeg z2.1))
      have mσ93 := wt_M_no mσ86 eσ93 (by first | decide | omega)
      have rσ93 := wt_Rn2 rσ86 eσ93 (by decide) (by decide) (show 0 ≤ (wt_ga σ86 112 (Int32.toNatClampNeg z2.1)).toInt by omega) (show (wt_ga σ86 112 (Int32.toNatClampNeg z2.1)).toInt ≤ 12 by omega)
      obtain ⟨σ102, eσ102⟩ : ∃ z : wt_St, z = wt_sa σ93 115 (Int32.toNatClampNeg z2.1) (wt_ga σ93 114 (Int32.toNatClampNeg z2.1)) := ⟨_, rfl⟩
      rw [← eσ102]
      have fσ102 := wt_fr_sa eσ102
      have vσ102 := wt_ceq (wt_v_sa eσ102)
      have g104 : 0 ≤ (wt_ga σ93 114 (Int32.toNatClampNeg z2.1)).toInt ∧ (wt_ga σ93 114 (Int32.toNatClampNeg z2.1)).toInt ≤ 99 := wt_Ra18 rσ93 114 (by decide) (by decide) (Int32.toNatClampNeg z2.1)
      have tt105 : (wt_ga σ93 114 (Int32.toNatClampNeg z2.1)).toInt = (wt_ga σ86 114 (Int32.toNatClampNeg z2.1)).toInt := congrArg Int32.toInt (fσ93.2 114 (by (try dsimp only); omega) (Int32.toNatClampNeg z2.1))
      have tt108 : (wt_ga σ86 114 (Int32.toNatClampNeg z2.1)).toInt = (wt_ga z2.2 114 (Int32.toNatClampNeg z2.1)).toInt := congrArg Int32.toInt (fσ86.2 114 (by (try dsimp only); omega) (Int32.toNatClampNeg z2.1))
      have tt111 : (wt_ga z2.2 114 (Int32.toNatClampNeg z2.1)).toInt = (wt_ga σ 114 (Int32.toNatClampNeg z2.1)).toInt := congrArg Int32.toInt (l4.2 114 (by (try dsimp only); omega) (Int32.toNatClampNeg z2.1))
      have mσ102 := wt_M_no mσ93 eσ102 (by first | decide | omega)
      have rσ102 := wt_Rn18 rσ93 eσ102 (by decide) (by decide) (show 0 ≤ (wt_ga σ93 114 (Int32.toNatClampNeg z2.1)).toInt by omega) (show (wt_ga σ93 114 (Int32.toNatClampNeg z2.1)).toInt ≤ 99 by omega)
      obtain ⟨σ114, eσ114⟩ : ∃ z : wt_St, z = wt_sa σ102 117 (Int32.toNatClampNeg z2.1) (wt_ga σ102 116 (Int32.toNatClampNeg z2.1)) := ⟨_, rfl⟩
      rw [← eσ114]
      have fσ114 := wt_fr_sa eσ114
      have vσ114 := wt_ceq (wt_v_sa eσ114)
      have bb115 := wt_bd (wt_ga σ102 116 (Int32.toNatClampNeg z2.1))
      have tt116 : (wt_ga σ102 116 (Int32.toNatClampNeg z2.1)).toInt = (wt_ga σ93 116 (Int32.toNatClampNeg z2.1)).toInt := congrArg Int32.toInt (fσ102.2 116 (by (try dsimp only); omega) (Int32.toNatClampNeg z2.1))
      have bb117 := wt_bd (wt_ga σ93 116 (Int32.toNatClampNeg z2.1))
      have tt118 : (wt_ga σ93 116 (Int32.toNatClampNeg z2.1)).toInt = (wt_ga σ86 116 (Int32.toNatClampNeg z2.1)).toInt := congrArg Int32.toInt (fσ93.2 116 (by (try dsimp only); omega) (Int32.toNatClampNeg z2.1))
      have bb119 := wt_bd (wt_ga σ86 116 (Int32.toNatClampNeg z2.1))
      have tt120 : (wt_ga σ86 116 (Int32.toNatClampNeg z2.1)).toInt = (wt_ga z2.2 116 (Int32.toNatClampNeg z2.1)).toInt := congrArg Int32.toInt (fσ86.2 116 (by (try dsimp only); omega) (Int32.toNatClampNeg z2.1))
      have bb121 := wt_bd (wt_ga z2.2 116 (Int32.toNatClampNeg z2.1))
      have tt122 : (wt_ga z2.2 116 (Int32.toNatClampNeg z2.1)).toInt = (wt_ga σ 116 (Int32.toNatClampNeg z2.1)).toInt := congrArg Int32.toInt (l4.2 116 (by (try dsimp only); omega) (Int32.toNatClampNeg z2.1))
      have bb123 := wt_bd (wt_ga σ 116 (Int32.toNatClampNeg z2.1))
      have mσ114 := wt_M_no mσ102 eσ114 (by first | decide | omega)
      have rσ114 := wt_RI_no rσ102 eσ114 117 118 (by decide +kernel) (by decide) (by decide)
      refine hKK1 _ ⟨(wt_fr.tr (wt_fr.tr (wt_fr.tr (wt_fr.tr (wt_fr.tr wt_fr.rf l4 (fun i k h => h.elim) (fun i h => by (try dsimp only at h); rcases h with h | h | h | h; exact Or.inl (by first | exact h | omega); exact Or.inr (Or.inl (by first | exact h | omega)); exact Or.inr (Or.inr (Or.inl (by first | exact h | omega))); exact Or.inr (Or.inr (Or.inr (by first | exact h | omega))))) fσ86 (fun i k h => h.elim) (fun i h => by (try dsimp only at h); exact Or.inl (by first | exact h | omega))) fσ93 (fun i k h => h.elim) (fun i h => by (try dsimp only at h); exact Or.inr (Or.inl (by first | exact h | omega)))) fσ102 (fun i k h => h.elim) (fun i h => by (try dsimp only at h); exact Or.inr (Or.inr (Or.inl (by first | exact h | omega))))) fσ114 (fun i k h => h.elim) (fun i h => by (try dsimp only at h); exact Or.inr (Or.inr (Or.inr (by first | exact h | omega))))), (wt_nn (B := (26 : Int32)) (by first | with_reducible assumption | omega) (by first | with_reducible assumption | omega)), rσ114, mσ114⟩ ?_
      show ((26 : Int32).toInt - (z2.1 + (1 : Int32)).toInt + 0).toNat < ((26 : Int32).toInt - z2.1.toInt + 0).toNat
      exact wt_mu (by first | with_reducible assumption | omega) (by first | with_reducible assumption | omega)
  · skip
    have k124 : (26 : Int32).toInt = 26 := by decide
    exact ⟨wt_fr.rf, (show 0 ≤ ((0 : Int32)).toInt by omega), r0, m0⟩
  · skip
    have k125 : (26 : Int32).toInt = 26 := by decide
    show ((26 : Int32).toInt - (0 : Int32).toInt + 0).toNat < n
    omega
set_option maxRecDepth 100000 in
set_option maxHeartbeats 4000000 in
theorem wq_md_kase_B23 (n : Nat) (hn : 4294967297 < n) (x1 : Int32) (y1 : Int32) (σ : wt_St) (r0 : wt_RI σ) (m0 : wt_M12 σ) (p0 : y1.toInt ≠ 0 ∨ (0 ≤ x1.toInt ∧ x1.toInt ≤ 500)) : wt_T (wp_md_kase_B23 n x1 y1 σ) (fun q => wt_fr (fun i k => (i = 108 ∧ k = 0) ∨ (i = 108 ∧ k = 1) ∨ (i = 108 ∧ k = 2) ∨ (i = 108 ∧ k = 4) ∨ (i = 108 ∧ k = 5) ∨ (i = 108 ∧ k = 6) ∨ (i = 108 ∧ k = 7) ∨ (i = 108 ∧ k = 24) ∨ (i = 108 ∧ k = 3) ∨ (i = 108 ∧ k = 25) ∨ (i = 108 ∧ k = 41)) (fun i => i = 118 ∨ i = 110 ∨ i = 112 ∨ i = 114 ∨ i = 116 ∨ i = 121 ∨ i = 123 ∨ i = 124 ∨ i = 119 ∨ i = 111 ∨ i = 113 ∨ i = 115 ∨ i = 117 ∨ i = 275 ∨ i = 120 ∨ i = 122) σ q.2 ∧ wt_RI q.2 ∧ wt_M12 q.2 ∧ ((y1.toInt ≠ 0 → (wt_gf q.2 108 1).toInt = (wt_gf σ 108 1).toInt) ∧ (y1.toInt = 0 ∧ (wt_gf σ 108 0).toInt = 0 → (wt_gf q.2 108 1).toInt = 0))) := by
  have bb1 := wt_bd x1
  have bb2 := wt_bd y1
  unfold wp_md_kase_B23
  have k3 : (1 : Int32).toInt = 1 := by decide
  refine wt_T_bi (wq_md_bad n hn y1 (1 : Int32) σ r0 (by first | with_reducible assumption | omega)) (fun r4 h5 => ?_)
  obtain ⟨f6, ri7, pp8⟩ := h5
  have mi9 := wt_M_fr m0 f6 (by (try dsimp only); first | omega | exact fun h => h)
  have bb10 := wt_bd r4.1
  have bb11 := wt_bd (wt_gf r4.2 108 0)
  have bb12 := wt_bd (wt_gf σ 108 0)
  have k13 : (0 : Int32).toInt = 0 := by decide
  refine wt_T_if (fun h14 => ?_) (fun h14 => ?_)
  · skip
    have c15 := wt_ceq h14
    refine wt_T_bi (wq_md_starts n hn x1 r4.2 ri7 (by first | with_reducible assumption | omega) (by first | with_reducible assumption | omega)) (fun r16 h17 => ?_)
    obtain ⟨f18, ri19, pp20⟩ := h17
    have mi21 := wt_M_fr mi9 f18 (by (try dsimp only); first | omega | exact fun h => h)
    have g23 : 0 ≤ (wt_gf r16 108 1).toInt ∧ (wt_gf r16 108 1).toInt ≤ 500 := wt_Rf0 ri19
    have g25 : 0 ≤ (wt_gf r16 108 5).toInt ∧ (wt_gf r16 108 5).toInt ≤ 3 := wt_Rf3 ri19
    have g27 : 0 ≤ (wt_gf r16 108 7).toInt ∧ (wt_gf r16 108 7).toInt ≤ 60 := wt_Rf4 ri19
    refine wt_T_bi (wq_md_clearsCase n hn r16 ri19) (fun r28 h29 => ?_)
    obtain ⟨f30, ri31⟩ := h29
    have mi32 := wt_M_fr mi21 f30 (by (try dsimp only); first | omega | exact fun h => h)
    refine wt_T_it (fun s : wt_St => wt_fr (fun i k => (i = 108 ∧ k = 4) ∨ (i = 108 ∧ k = 5) ∨ (i = 108 ∧ k = 6) ∨ (i = 108 ∧ k = 7) ∨ (i = 108 ∧ k = 24)) (fun i => i = 114 ∨ i = 116 ∨ i = 118 ∨ i = 120 ∨ i = 110 ∨ i = 122 ∨ i = 112) r28 s ∧ wt_RI s ∧ wt_M12 s) (fun s : wt_St => (4 * (60 - (wt_gf s 108 7).toInt) + 3 - (wt_gf s 108 5).toInt).toNat) (fun KK33 z34 I35 hKK33 => ?_) _ _ ?_ ?_
    · skip
      obtain ⟨l36, l37, l38⟩ := I35
      unfold wp_md_kase_B41
      have g40 : 0 ≤ (wt_gf z34 108 7).toInt ∧ (wt_gf z34 108 7).toInt ≤ 60 := wt_Rf4 l37
      have g42 : 0 ≤ (wt_gf z34 108 5).toInt ∧ (wt_gf z34 108 5).toInt ≤ 3 := wt_Rf3 l37
      refine wt_T_if (fun h43 => ?_) (fun h43 => ?_)
      · skip
        have c44 := wt_ceq h43
        have g46 : 0 ≤ (wt_gf z34 108 2).toInt ∧ (wt_gf z34 108 2).toInt ≤ 500 := wt_Rf1 l37
        have tt47 : (wt_gf z34 108 2).toInt = (wt_gf r28 108 2).toInt := congrArg Int32.toInt (l36.1 108 2 (by (try dsimp only); omega))
        have tt50 : (wt_gf r28 108 2).toInt = (wt_gf r16 108 2).toInt := congrArg Int32.toInt (f30.1 108 2 (by (try dsimp only); omega))
        have g54 : 0 ≤ (wt_gf z34 108 4).toInt ∧ (wt_gf z34 108 4).toInt ≤ 500 := wt_Rf2 l37
        refine wt_T_if (fun h55 => ?_) (fun h55 => ?_)
        · skip
          have c56 := wt_cle h55
          unfold wp_md_kase_B70
          obtain ⟨σ57, eσ57⟩ : ∃ z : wt_St, z = wt_sf z34 108 3 (wt_gf z34 108 6) := ⟨_, rfl⟩
          rw [← eσ57]
          have fσ57 := wt_fr_sf eσ57
          have vσ57 := wt_ceq (wt_v_sf eσ57)
          have bb58 := wt_bd (wt_gf z34 108 6)
          have mσ57 := wt_M_sf l38 eσ57
          have rσ57 := wt_RI_fno l37 eσ57 (Or.inr (by decide +kernel))
          have g60 : 0 ≤ (wt_gf σ57 108 5).toInt ∧ (wt_gf σ57 108 5).toInt ≤ 3 := wt_Rf3 rσ57
          have tt61 : (wt_gf σ57 108 5).toInt = (wt_gf z34 108 5).toInt := congrArg Int32.toInt (fσ57.1 108 5 (by (try dsimp only); omega))
          refine wt_T_if (fun h62 => ?_) (fun h62 => ?_)
          · skip
            have c63 := wt_ceq h62
            refine wt_T_bi (wq_md_takesCase n hn σ57 rσ57 mσ57) (fun r64 h65 => ?_)
            obtain ⟨f66, ri67, mi68⟩ := h65
            refine wt_T_it (fun s : Int32 × wt_St => wt_fr (fun i k => False) (fun i => i = 275) r64 s.2 ∧ 0 ≤ (s.1).toInt ∧ wt_RI s.2 ∧ wt_M12 s.2) (fun s : Int32 × wt_St => ((4 : Int32).toInt - s.1.toInt + 0).toNat) (fun KK69 z70 I71 hKK69 => ?_) _ _ ?_ ?_
            · skip
              obtain ⟨l72, l73, l74, l75⟩ := I71
              unfold wp_md_kase_B99
              have k76 : (4 : Int32).toInt = 4 := by decide
              have bb77 := wt_bd z70.1
              refine wt_T_if (fun h78 => ?_) (fun h78 => ?_)
              · skip
                have c79 := wt_cle h78
                obtain ⟨σ80, eσ80⟩ : ∃ z : wt_St, z = wt_sf z70.2 108 41 (0 : Int32) := ⟨_, rfl⟩
                rw [← eσ80]
                have fσ80 := wt_fr_sf eσ80
                have vσ80 := wt_ceq (wt_v_sf eσ80)
                have mσ80 := wt_M_sf l75 eσ80
                have rσ80 := wt_Rm9 l74 eσ80 (show 0 ≤ ((0 : Int32)).toInt by omega) (show ((0 : Int32)).toInt ≤ 3 by omega)
                refine wt_T_bi (wq_md_allPieces n hn σ80 rσ80) (fun r81 h82 => ?_)
                have e83 := h82
                have bb84 := wt_bd r81.1
                rw [e83]
                refine wt_T_some ?_
                have g86 : 0 ≤ (wt_gf σ80 108 1).toInt ∧ (wt_gf σ80 108 1).toInt ≤ 500 := wt_Rf0 rσ80
                have tt87 : (wt_gf σ80 108 1).toInt = (wt_gf z70.2 108 1).toInt := congrArg Int32.toInt (fσ80.1 108 1 (by (try dsimp only); omega))
                have tt90 : (wt_gf z70.2 108 1).toInt = (wt_gf r64 108 1).toInt := congrArg Int32.toInt (l72.1 108 1 (fun z => z))
                have tt93 : (wt_gf r64 108 1).toInt = (wt_gf σ57 108 1).toInt := congrArg Int32.toInt (f66.1 108 1 (by (try dsimp only); omega))
                have tt96 : (wt_gf σ57 108 1).toInt = (wt_gf z34 108 1).toInt := congrArg Int32.toInt (fσ57.1 108 1 (by (try dsimp only); omega))
                have tt99 : (wt_gf z34 108 1).toInt = (wt_gf r28 108 1).toInt := congrArg Int32.toInt (l36.1 108 1 (by (try dsimp only); omega))
                have tt102 : (wt_gf r28 108 1).toInt = (wt_gf r16 108 1).toInt := congrArg Int32.toInt (f30.1 108 1 (by (try dsimp only); omega))
                have g104 : 0 ≤ (wt_gf σ 108 1).toInt ∧ (wt_gf σ 108 1).toInt ≤ 500 := wt_Rf0 r0
                exact ⟨(wt_fr.tr (wt_fr.tr (wt_fr.tr (wt_fr.tr (wt_fr.tr (wt_fr.tr (wt_fr.tr (wt_fr.tr wt_fr.rf f6 (fun i k h => by (try dsimp only at h); exact Or.inl (by first | exact h | omega)) (fun i h => h.elim)) f18 (fun i k h => by (try dsimp only at h); rcases h with h | h | h | h | h | h; exact Or.inr (Or.inl (by first | exact h | omega)); exact Or.inr (Or.inr (Or.inl (by first | exact h | omega))); exact Or.inr (Or.inr (Or.inr (Or.inl (by first | exact h | omega)))); exact Or.inr (Or.inr (Or.inr (Or.inr (Or.inl (by first | exact h | omega))))); exact Or.inr (Or.inr (Or.inr (Or.inr (Or.inr (Or.inl (by first | exact h | omega)))))); exact Or.inr (Or.inr (Or.inr (Or.inr (Or.inr (Or.inr (Or.inl (by first | exact h | omega)))))))) (fun i h => h.elim)) f30 (fun i k h => by (try dsimp only at h); exact Or.inr (Or.inr (Or.inr (Or.inr (Or.inr (Or.inr (Or.inr (Or.inl (by first | exact h | omega))))))))) (fun i h => by (try dsimp only at h); rcases h with h | h | h | h | h; exact Or.inl (by first | exact h | omega); exact Or.inr (Or.inl (by first | exact h | omega)); exact Or.inr (Or.inr (Or.inl (by first | exact h | omega))); exact Or.inr (Or.inr (Or.inr (Or.inl (by first | exact h | omega)))); exact Or.inr (Or.inr (Or.inr (Or.inr (Or.inl (by first | exact h | omega))))))) l36 (fun i k h => by (try dsimp only at h); rcases h with h | h | h | h | h; exact Or.inr (Or.inr (Or.inr (Or.inl (by first | exact h | omega)))); exact Or.inr (Or.inr (Or.inr (Or.inr (Or.inl (by first | exact h | omega))))); exact Or.inr (Or.inr (Or.inr (Or.inr (Or.inr (Or.inl (by first | exact h | omega)))))); exact Or.inr (Or.inr (Or.inr (Or.inr (Or.inr (Or.inr (Or.inl (by first | exact h | omega))))))); exact Or.inr (Or.inr (Or.inr (Or.inr (Or.inr (Or.inr (Or.inr (Or.inl (by first | exact h | omega))))))))) (fun i h => by (try dsimp only at h); rcases h with h | h | h | h | h | h | h; exact Or.inr (Or.inr (Or.inr (Or.inl (by first | exact h | omega)))); exact Or.inr (Or.inr (Or.inr (Or.inr (Or.inl (by first | exact h | omega))))); exact Or.inl (by first | exact h | omega); exact Or.inr (Or.inr (Or.inr (Or.inr (Or.inr (Or.inr (Or.inr (Or.inr (Or.inr (Or.inr (Or.inr (Or.inr (Or.inr (Or.inr (Or.inl (by first | exact h | omega))))))))))))))); exact Or.inr (Or.inl (by first | exact h | omega)); exact Or.inr (Or.inr (Or.inr (Or.inr (Or.inr (Or.inr (Or.inr (Or.inr (Or.inr (Or.inr (Or.inr (Or.inr (Or.inr (Or.inr (Or.inr (by first | exact h | omega))))))))))))))); exact Or.inr (Or.inr (Or.inl (by first | exact h | omega))))) fσ57 (fun i k h => by (try dsimp only at h); exact Or.inr (Or.inr (Or.inr (Or.inr (Or.inr (Or.inr (Or.inr (Or.inr (Or.inl (by first | exact h | omega)))))))))) (fun i h => h.elim)) f66 (fun i k h => by (try dsimp only at h); exact Or.inr (Or.inr (Or.inr (Or.inr (Or.inr (Or.inr (Or.inr (Or.inr (Or.inr (Or.inl (by first | exact h | omega))))))))))) (fun i h => by (try dsimp only at h); rcases h with h | h | h | h | h | h | h | h; exact Or.inr (Or.inr (Or.inr (Or.inr (Or.inr (Or.inl (by first | exact h | omega)))))); exact Or.inr (Or.inr (Or.inr (Or.inr (Or.inr (Or.inr (Or.inl (by first | exact h | omega))))))); exact Or.inr (Or.inr (Or.inr (Or.inr (Or.inr (Or.inr (Or.inr (Or.inl (by first | exact h | omega)))))))); exact Or.inr (Or.inr (Or.inr (Or.inr (Or.inr (Or.inr (Or.inr (Or.inr (Or.inl (by first | exact h | omega))))))))); exact Or.inr (Or.inr (Or.inr (Or.inr (Or.inr (Or.inr (Or.inr (Or.inr (Or.inr (Or.inl (by first | exact h | omega)))))))))); exact Or.inr (Or.inr (Or.inr (Or.inr (Or.inr (Or.inr (Or.inr (Or.inr (Or.inr (Or.inr (Or.inl (by first | exact h | omega))))))))))); exact Or.inr (Or.inr (Or.inr (Or.inr (Or.inr (Or.inr (Or.inr (Or.inr (Or.inr (Or.inr (Or.inr (Or.inl (by first | exact h | omega)))))))))))); exact Or.inr (Or.inr (Or.inr (Or.inr (Or.inr (Or.inr (Or.inr (Or.inr (Or.inr (Or.inr (Or.inr (Or.inr (Or.inl (by first | exact h | omega))))))))))))))) l72 (fun i k h => h.elim) (fun i h => by (try dsimp only at h); exact Or.inr (Or.inr (Or.inr (Or.inr (Or.inr (Or.inr (Or.inr (Or.inr (Or.inr (Or.inr (Or.inr (Or.inr (Or.inr (Or.inl (by first | exact h | omega)))))))))))))))) fσ80 (fun i k h => by (try dsimp only at h); exact Or.inr (Or.inr (Or.inr (Or.inr (Or.inr (Or.inr (Or.inr (Or.inr (Or.inr (Or.inr (by first | exact h | omega))))))))))) (fun i h => h.elim)), rσ80, mσ80, (show ((y1.toInt ≠ 0 → (wt_gf σ80 108 1).toInt = (wt_gf σ 108 1).toInt) ∧ (y1.toInt = 0 ∧ (wt_gf σ 108 0).toInt = 0 → (wt_gf σ80 108 1).toInt = 0)) from by omega)⟩
              · skip
                have c105 := wt_ncle h78
                refine wt_T_gd (wt_ix (by first | with_reducible assumption | omega) (by first | with_reducible assumption | omega)) ?_
                obtain ⟨σ106, eσ106⟩ : ∃ z : wt_St, z = wt_sa z70.2 275 (Int32.toNatClampNeg z70.1) (-1 : Int32) := ⟨_, rfl⟩
                rw [← eσ106]
                have fσ106 := wt_fr_sa eσ106
                have vσ106 := wt_ceq (wt_v_sa eσ106)
                have bb107 := wt_tn z70.1
                have mσ106 := wt_M_no l75 eσ106 (by first | decide | omega)
                have k108 := wt_lm1
                have rσ106 := wt_Rn12 l74 eσ106 (by decide) (by decide) (show -1 ≤ ((-1 : Int32)).toInt by omega) (show ((-1 : Int32)).toInt ≤ 7 by omega)
                refine hKK69 _ ⟨(wt_fr.tr (wt_fr.tr wt_fr.rf l72 (fun i k h => h.elim) (fun i h => by (try dsimp only at h); exact (by first | exact h | omega))) fσ106 (fun i k h => h.elim) (fun i h => by (try dsimp only at h); exact (by first | exact h | omega))), (wt_nn (B := (4 : Int32)) (by first | with_reducible assumption | omega) (by first | with_reducible assumption | omega)), rσ106, mσ106⟩ ?_
                show ((4 : Int32).toInt - (z70.1 + (1 : Int32)).toInt + 0).toNat < ((4 : Int32).toInt - z70.1.toInt + 0).toNat
                exact wt_mu (by first | with_reducible assumption | omega) (by first | with_reducible assumption | omega)
            · skip
              have k109 : (4 : Int32).toInt = 4 := by decide
              exact ⟨wt_fr.rf, (show 0 ≤ ((0 : Int32)).toInt by omega), ri67, mi68⟩
            · skip
              have k110 : (4 : Int32).toInt = 4 := by decide
              show ((4 : Int32).toInt - (0 : Int32).toInt + 0).toNat < n
              omega
          · skip
            have c111 := wt_nceq h62
            refine wt_T_some ?_
            have k112 : (10 : Int32).toInt = 10 := by decide
            obtain ⟨j113, j113a, j113b⟩ := wt_subI (wt_gf σ57 108 5) (10 : Int32)
            have g115 : 0 ≤ (wt_gf σ57 108 1).toInt ∧ (wt_gf σ57 108 1).toInt ≤ 500 := wt_Rf0 rσ57
            have tt116 : (wt_gf σ57 108 1).toInt = (wt_gf z34 108 1).toInt := congrArg Int32.toInt (fσ57.1 108 1 (by (try dsimp only); omega))
            have tt119 : (wt_gf z34 108 1).toInt = (wt_gf r28 108 1).toInt := congrArg Int32.toInt (l36.1 108 1 (by (try dsimp only); omega))
            have tt122 : (wt_gf r28 108 1).toInt = (wt_gf r16 108 1).toInt := congrArg Int32.toInt (f30.1 108 1 (by (try dsimp only); omega))
            have g124 : 0 ≤ (wt_gf σ 108 1).toInt ∧ (wt_gf σ 108 1).toInt ≤ 500 := wt_Rf0 r0
            exact ⟨(wt_fr.tr (wt_fr.tr (wt_fr.tr (wt_fr.tr (wt_fr.tr wt_fr.rf f6 (fun i k h => by (try dsimp only at h); exact Or.inl (by first | exact h | omega)) (fun i h => h.elim)) f18 (fun i k h => by (try dsimp only at h); rcases h with h | h | h | h | h | h; exact Or.inr (Or.inl (by first | exact h | omega)); exact Or.inr (Or.inr (Or.inl (by first | exact h | omega))); exact Or.inr (Or.inr (Or.inr (Or.inl (by first | exact h | omega)))); exact Or.inr (Or.inr (Or.inr (Or.inr (Or.inl (by first | exact h | omega))))); exact Or.inr (Or.inr (Or.inr (Or.inr (Or.inr (Or.inl (by first | exact h | omega)))))); exact Or.inr (Or.inr (Or.inr (Or.inr (Or.inr (Or.inr (Or.inl (by first | exact h | omega)))))))) (fun i h => h.elim)) f30 (fun i k h => by (try dsimp only at h); exact Or.inr (Or.inr (Or.inr (Or.inr (Or.inr (Or.inr (Or.inr (Or.inl (by first | exact h | omega))))))))) (fun i h => by (try dsimp only at h); rcases h with h | h | h | h | h; exact Or.inl (by first | exact h | omega); exact Or.inr (Or.inl (by first | exact h | omega)); exact Or.inr (Or.inr (Or.inl (by first | exact h | omega))); exact Or.inr (Or.inr (Or.inr (Or.inl (by first | exact h | omega)))); exact Or.inr (Or.inr (Or.inr (Or.inr (Or.inl (by first | exact h | omega))))))) l36 (fun i k h => by (try dsimp only at h); rcases h with h | h | h | h | h; exact Or.inr (Or.inr (Or.inr (Or.inl (by first | exact h | omega)))); exact Or.inr (Or.inr (Or.inr (Or.inr (Or.inl (by first | exact h | omega))))); exact Or.inr (Or.inr (Or.inr (Or.inr (Or.inr (Or.inl (by first | exact h | omega)))))); exact Or.inr (Or.inr (Or.inr (Or.inr (Or.inr (Or.inr (Or.inl (by first | exact h | omega))))))); exact Or.inr (Or.inr (Or.inr (Or.inr (Or.inr (Or.inr (Or.inr (Or.inl (by first | exact h | omega))))))))) (fun i h => by (try dsimp only at h); rcases h with h | h | h | h | h | h | h; exact Or.inr (Or.inr (Or.inr (Or.inl (by first | exact h | omega)))); exact Or.inr (Or.inr (Or.inr (Or.inr (Or.inl (by first | exact h | omega))))); exact Or.inl (by first | exact h | omega); exact Or.inr (Or.inr (Or.inr (Or.inr (Or.inr (Or.inr (Or.inr (Or.inr (Or.inr (Or.inr (Or.inr (Or.inr (Or.inr (Or.inr (Or.inl (by first | exact h | omega))))))))))))))); exact Or.inr (Or.inl (by first | exact h | omega)); exact Or.inr (Or.inr (Or.inr (Or.inr (Or.inr (Or.inr (Or.inr (Or.inr (Or.inr (Or.inr (Or.inr (Or.inr (Or.inr (Or.inr (Or.inr (by first | exact h | omega))))))))))))))); exact Or.inr (Or.inr (Or.inl (by first | exact h | omega))))) fσ57 (fun i k h => by (try dsimp only at h); exact Or.inr (Or.inr (Or.inr (Or.inr (Or.inr (Or.inr (Or.inr (Or.inr (Or.inl (by first | exact h | omega)))))))))) (fun i h => h.elim)), rσ57, mσ57, (show ((y1.toInt ≠ 0 → (wt_gf σ57 108 1).toInt = (wt_gf σ 108 1).toInt) ∧ (y1.toInt = 0 ∧ (wt_gf σ 108 0).toInt = 0 → (wt_gf σ57 108 1).toInt = 0)) from by omega)⟩
        · skip
          have c125 := wt_ncle h55
          refine wt_T_bi (wq_md_clause n hn z34 l37) (fun r126 h127 => ?_)
          obtain ⟨f128, ri129, pp130⟩ := h127
          have mi131 := wt_M_fr l38 f128 (by (try dsimp only); first | omega | exact fun h => h)
          have g133 : 0 ≤ (wt_gf r126 108 7).toInt ∧ (wt_gf r126 108 7).toInt ≤ 60 := wt_Rf4 ri129
          have g135 : 0 ≤ (wt_gf r126 108 5).toInt ∧ (wt_gf r126 108 5).toInt ≤ 3 := wt_Rf3 ri129
          refine wt_T_bi (wq_md_blanks n hn r126 ri129) (fun r136 h137 => ?_)
          obtain ⟨f138, ri139, pp140⟩ := h137
          have mi141 := wt_M_fr mi131 f138 (by (try dsimp only); first | omega | exact fun h => h)
          have g143 : 0 ≤ (wt_gf r126 108 4).toInt ∧ (wt_gf r126 108 4).toInt ≤ 500 := wt_Rf2 ri129
          have g145 : 0 ≤ (wt_gf r136 108 4).toInt ∧ (wt_gf r136 108 4).toInt ≤ 500 := wt_Rf2 ri139
          have g147 : 0 ≤ (wt_gf r136 108 7).toInt ∧ (wt_gf r136 108 7).toInt ≤ 60 := wt_Rf4 ri139
          have tt148 : (wt_gf r136 108 7).toInt = (wt_gf r126 108 7).toInt := congrArg Int32.toInt (f138.1 108 7 (by (try dsimp only); omega))
          have g150 : 0 ≤ (wt_gf r136 108 5).toInt ∧ (wt_gf r136 108 5).toInt ≤ 3 := wt_Rf3 ri139
          have tt151 : (wt_gf r136 108 5).toInt = (wt_gf r126 108 5).toInt := congrArg Int32.toInt (f138.1 108 5 (by (try dsimp only); omega))
          refine hKK33 _ ⟨(wt_fr.tr (wt_fr.tr (wt_fr.tr wt_fr.rf l36 (fun i k h => by (try dsimp only at h); rcases h with h | h | h | h | h; exact Or.inl (by first | exact h | omega); exact Or.inr (Or.inl (by first | exact h | omega)); exact Or.inr (Or.inr (Or.inl (by first | exact h | omega))); exact Or.inr (Or.inr (Or.inr (Or.inl (by first | exact h | omega)))); exact Or.inr (Or.inr (Or.inr (Or.inr (by first | exact h | omega))))) (fun i h => by (try dsimp only at h); rcases h with h | h | h | h | h | h | h; exact Or.inl (by first | exact h | omega); exact Or.inr (Or.inl (by first | exact h | omega)); exact Or.inr (Or.inr (Or.inl (by first | exact h | omega))); exact Or.inr (Or.inr (Or.inr (Or.inl (by first | exact h | omega)))); exact Or.inr (Or.inr (Or.inr (Or.inr (Or.inl (by first | exact h | omega))))); exact Or.inr (Or.inr (Or.inr (Or.inr (Or.inr (Or.inl (by first | exact h | omega)))))); exact Or.inr (Or.inr (Or.inr (Or.inr (Or.inr (Or.inr (by first | exact h | omega)))))))) f128 (fun i k h => by (try dsimp only at h); rcases h with h | h | h | h | h; exact Or.inl (by first | exact h | omega); exact Or.inr (Or.inl (by first | exact h | omega)); exact Or.inr (Or.inr (Or.inl (by first | exact h | omega))); exact Or.inr (Or.inr (Or.inr (Or.inl (by first | exact h | omega)))); exact Or.inr (Or.inr (Or.inr (Or.inr (by first | exact h | omega))))) (fun i h => by (try dsimp only at h); rcases h with h | h | h | h | h | h | h; exact Or.inl (by first | exact h | omega); exact Or.inr (Or.inl (by first | exact h | omega)); exact Or.inr (Or.inr (Or.inl (by first | exact h | omega))); exact Or.inr (Or.inr (Or.inr (Or.inl (by first | exact h | omega)))); exact Or.inr (Or.inr (Or.inr (Or.inr (Or.inl (by first | exact h | omega))))); exact Or.inr (Or.inr (Or.inr (Or.inr (Or.inr (Or.inl (by first | exact h | omega)))))); exact Or.inr (Or.inr (Or.inr (Or.inr (Or.inr (Or.inr (by first | exact h | omega)))))))) f138 (fun i k h => by (try dsimp only at h); exact Or.inl (by first | exact h | omega)) (fun i h => h.elim)), ri139, mi141⟩ ?_
          show (4 * (60 - (wt_gf r136 108 7).toInt) + 3 - (wt_gf r136 108 5).toInt).toNat < (4 * (60 - (wt_gf z34 108 7).toInt) + 3 - (wt_gf z34 108 5).toInt).toNat
          omega
      · skip
        have c152 := wt_nceq h43
        unfold wp_md_kase_B70
        obtain ⟨σ153, eσ153⟩ : ∃ z : wt_St, z = wt_sf z34 108 3 (wt_gf z34 108 6) := ⟨_, rfl⟩
        rw [← eσ153]
        have fσ153 := wt_fr_sf eσ153
        have vσ153 := wt_ceq (wt_v_sf eσ153)
        have bb154 := wt_bd (wt_gf z34 108 6)
        have mσ153 := wt_M_sf l38 eσ153
        have rσ153 := wt_RI_fno l37 eσ153 (Or.inr (by decide +kernel))
        have g156 : 0 ≤ (wt_gf σ153 108 5).toInt ∧ (wt_gf σ153 108 5).toInt ≤ 3 := wt_Rf3 rσ153
        have tt157 : (wt_gf σ153 108 5).toInt = (wt_gf z34 108 5).toInt := congrArg Int32.toInt (fσ153.1 108 5 (by (try dsimp only); omega))
        refine wt_T_if (fun h158 => ?_) (fun h158 => ?_)
        · skip
          have c159 := wt_ceq h158
          refine wt_T_bi (wq_md_takesCase n hn σ153 rσ153 mσ153) (fun r160 h161 => ?_)
          obtain ⟨f162, ri163, mi164⟩ := h161
          refine wt_T_it (fun s : Int32 × wt_St => wt_fr (fun i k => False) (fun i => i = 275) r160 s.2 ∧ 0 ≤ (s.1).toInt ∧ wt_RI s.2 ∧ wt_M12 s.2) (fun s : Int32 × wt_St => ((4 : Int32).toInt - s.1.toInt + 0).toNat) (fun KK165 z166 I167 hKK165 => ?_) _ _ ?_ ?_
          · skip
            obtain ⟨l168, l169, l170, l171⟩ := I167
            unfold wp_md_kase_B99
            have k172 : (4 : Int32).toInt = 4 := by decide
            have bb173 := wt_bd z166.1
            refine wt_T_if (fun h174 => ?_) (fun h174 => ?_)
            · skip
              have c175 := wt_cle h174
              obtain ⟨σ176, eσ176⟩ : ∃ z : wt_St, z = wt_sf z166.2 108 41 (0 : Int32) := ⟨_, rfl⟩
              rw [← eσ176]
              have fσ176 := wt_fr_sf eσ176
              have vσ176 := wt_ceq (wt_v_sf eσ176)
              have mσ176 := wt_M_sf l171 eσ176
              have rσ176 := wt_Rm9 l170 eσ176 (show 0 ≤ ((0 : Int32)).toInt by omega) (show ((0 : Int32)).toInt ≤ 3 by omega)
              refine wt_T_bi (wq_md_allPieces n hn σ176 rσ176) (fun r177 h178 => ?_)
              have e179 := h178
              have bb180 := wt_bd r177.1
              rw [e179]
              refine wt_T_some ?_
              have g182 : 0 ≤ (wt_gf σ176 108 1).toInt ∧ (wt_gf σ176 108 1).toInt ≤ 500 := wt_Rf0 rσ176
              have tt183 : (wt_gf σ176 108 1).toInt = (wt_gf z166.2 108 1).toInt := congrArg Int32.toInt (fσ176.1 108 1 (by (try dsimp only); omega))
              have tt186 : (wt_gf z166.2 108 1).toInt = (wt_gf r160 108 1).toInt := congrArg Int32.toInt (l168.1 108 1 (fun z => z))
              have tt189 : (wt_gf r160 108 1).toInt = (wt_gf σ153 108 1).toInt := congrArg Int32.toInt (f162.1 108 1 (by (try dsimp only); omega))
              have tt192 : (wt_gf σ153 108 1).toInt = (wt_gf z34 108 1).toInt := congrArg Int32.toInt (fσ153.1 108 1 (by (try dsimp only); omega))
              have tt195 : (wt_gf z34 108 1).toInt = (wt_gf r28 108 1).toInt := congrArg Int32.toInt (l36.1 108 1 (by (try dsimp only); omega))
              have tt198 : (wt_gf r28 108 1).toInt = (wt_gf r16 108 1).toInt := congrArg Int32.toInt (f30.1 108 1 (by (try dsimp only); omega))
              have g200 : 0 ≤ (wt_gf σ 108 1).toInt ∧ (wt_gf σ 108 1).toInt ≤ 500 := wt_Rf0 r0
              exact ⟨(wt_fr.tr (wt_fr.tr (wt_fr.tr (wt_fr.tr (wt_fr.tr (wt_fr.tr (wt_fr.tr (wt_fr.tr wt_fr.rf f6 (fun i k h => by (try dsimp only at h); exact Or.inl (by first | exact h | omega)) (fun i h => h.elim)) f18 (fun i k h => by (try dsimp only at h); rcases h with h | h | h | h | h | h; exact Or.inr (Or.inl (by first | exact h | omega)); exact Or.inr (Or.inr (Or.inl (by first | exact h | omega))); exact Or.inr (Or.inr (Or.inr (Or.inl (by first | exact h | omega)))); exact Or.inr (Or.inr (Or.inr (Or.inr (Or.inl (by first | exact h | omega))))); exact Or.inr (Or.inr (Or.inr (Or.inr (Or.inr (Or.inl (by first | exact h | omega)))))); exact Or.inr (Or.inr (Or.inr (Or.inr (Or.inr (Or.inr (Or.inl (by first | exact h | omega)))))))) (fun i h => h.elim)) f30 (fun i k h => by (try dsimp only at h); exact Or.inr (Or.inr (Or.inr (Or.inr (Or.inr (Or.inr (Or.inr (Or.inl (by first | exact h | omega))))))))) (fun i h => by (try dsimp only at h); rcases h with h | h | h | h | h; exact Or.inl (by first | exact h | omega); exact Or.inr (Or.inl (by first | exact h | omega)); exact Or.inr (Or.inr (Or.inl (by first | exact h | omega))); exact Or.inr (Or.inr (Or.inr (Or.inl (by first | exact h | omega)))); exact Or.inr (Or.inr (Or.inr (Or.inr (Or.inl (by first | exact h | omega))))))) l36 (fun i k h => by (try dsimp only at h); rcases h with h | h | h | h | h; exact Or.inr (Or.inr (Or.inr (Or.inl (by first | exact h | omega)))); exact Or.inr (Or.inr (Or.inr (Or.inr (Or.inl (by first | exact h | omega))))); exact Or.inr (Or.inr (Or.inr (Or.inr (Or.inr (Or.inl (by first | exact h | omega)))))); exact Or.inr (Or.inr (Or.inr (Or.inr (Or.inr (Or.inr (Or.inl (by first | exact h | omega))))))); exact Or.inr (Or.inr (Or.inr (Or.inr (Or.inr (Or.inr (Or.inr (Or.inl (by first | exact h | omega))))))))) (fun i h => by (try dsimp only at h); rcases h with h | h | h | h | h | h | h; exact Or.inr (Or.inr (Or.inr (Or.inl (by first | exact h | omega)))); exact Or.inr (Or.inr (Or.inr (Or.inr (Or.inl (by first | exact h | omega))))); exact Or.inl (by first | exact h | omega); exact Or.inr (Or.inr (Or.inr (Or.inr (Or.inr (Or.inr (Or.inr (Or.inr (Or.inr (Or.inr (Or.inr (Or.inr (Or.inr (Or.inr (Or.inl (by first | exact h | omega))))))))))))))); exact Or.inr (Or.inl (by first | exact h | omega)); exact Or.inr (Or.inr (Or.inr (Or.inr (Or.inr (Or.inr (Or.inr (Or.inr (Or.inr (Or.inr (Or.inr (Or.inr (Or.inr (Or.inr (Or.inr (by first | exact h | omega))))))))))))))); exact Or.inr (Or.inr (Or.inl (by first | exact h | omega))))) fσ153 (fun i k h => by (try dsimp only at h); exact Or.inr (Or.inr (Or.inr (Or.inr (Or.inr (Or.inr (Or.inr (Or.inr (Or.inl (by first | exact h | omega)))))))))) (fun i h => h.elim)) f162 (fun i k h => by (try dsimp only at h); exact Or.inr (Or.inr (Or.inr (Or.inr (Or.inr (Or.inr (Or.inr (Or.inr (Or.inr (Or.inl (by first | exact h | omega))))))))))) (fun i h => by (try dsimp only at h); rcases h with h | h | h | h | h | h | h | h; exact Or.inr (Or.inr (Or.inr (Or.inr (Or.inr (Or.inl (by first | exact h | omega)))))); exact Or.inr (Or.inr (Or.inr (Or.inr (Or.inr (Or.inr (Or.inl (by first | exact h | omega))))))); exact Or.inr (Or.inr (Or.inr (Or.inr (Or.inr (Or.inr (Or.inr (Or.inl (by first | exact h | omega)))))))); exact Or.inr (Or.inr (Or.inr (Or.inr (Or.inr (Or.inr (Or.inr (Or.inr (Or.inl (by first | exact h | omega))))))))); exact Or.inr (Or.inr (Or.inr (Or.inr (Or.inr (Or.inr (Or.inr (Or.inr (Or.inr (Or.inl (by first | exact h | omega)))))))))); exact Or.inr (Or.inr (Or.inr (Or.inr (Or.inr (Or.inr (Or.inr (Or.inr (Or.inr (Or.inr (Or.inl (by first | exact h | omega))))))))))); exact Or.inr (Or.inr (Or.inr (Or.inr (Or.inr (Or.inr (Or.inr (Or.inr (Or.inr (Or.inr (Or.inr (Or.inl (by first | exact h | omega)))))))))))); exact Or.inr (Or.inr (Or.inr (Or.inr (Or.inr (Or.inr (Or.inr (Or.inr (Or.inr (Or.inr (Or.inr (Or.inr (Or.inl (by first | exact h | omega))))))))))))))) l168 (fun i k h => h.elim) (fun i h => by (try dsimp only at h); exact Or.inr (Or.inr (Or.inr (Or.inr (Or.inr (Or.inr (Or.inr (Or.inr (Or.inr (Or.inr (Or.inr (Or.inr (Or.inr (Or.inl (by first | exact h | omega)))))))))))))))) fσ176 (fun i k h => by (try dsimp only at h); exact Or.inr (Or.inr (Or.inr (Or.inr (Or.inr (Or.inr (Or.inr (Or.inr (Or.inr (Or.inr (by first | exact h | omega))))))))))) (fun i h => h.elim)), rσ176, mσ176, (show ((y1.toInt ≠ 0 → (wt_gf σ176 108 1).toInt = (wt_gf σ 108 1).toInt) ∧ (y1.toInt = 0 ∧ (wt_gf σ 108 0).toInt = 0 → (wt_gf σ176 108 1).toInt = 0)) from by omega)⟩
            · skip
              have c201 := wt_ncle h174
              refine wt_T_gd (wt_ix (by first | with_reducible assumption | omega) (by first | with_reducible assumption | omega)) ?_
              obtain ⟨σ202, eσ202⟩ : ∃ z : wt_St, z = wt_sa z166.2 275 (Int32.toNatClampNeg z166.1) (-1 : Int32) := ⟨_, rfl⟩
              rw [← eσ202]
              have fσ202 := wt_fr_sa eσ202
              have vσ202 := wt_ceq (wt_v_sa eσ202)
              have bb203 := wt_tn z166.1
              have mσ202 := wt_M_no l171 eσ202 (by first | decide | omega)
              have k204 := wt_lm1
              have rσ202 := wt_Rn12 l170 eσ202 (by decide) (by decide) (show -1 ≤ ((-1 : Int32)).toInt by omega) (show ((-1 : Int32)).toInt ≤ 7 by omega)
              refine hKK165 _ ⟨(wt_fr.tr (wt_fr.tr wt_fr.rf l168 (fun i k h => h.elim) (fun i h => by (try dsimp only at h); exact (by first | exact h | omega))) fσ202 (fun i k h => h.elim) (fun i h => by (try dsimp only at h); exact (by first | exact h | omega))), (wt_nn (B := (4 : Int32)) (by first | with_reducible assumption | omega) (by first | with_reducible assumption | omega)), rσ202, mσ202⟩ ?_
              show ((4 : Int32).toInt - (z166.1 + (1 : Int32)).toInt + 0).toNat < ((4 : Int32).toInt - z166.1.toInt + 0).toNat
              exact wt_mu (by first | with_reducible assumption | omega) (by first | with_reducible assumption | omega)
          · skip
            have k205 : (4 : Int32).toInt = 4 := by decide
            exact ⟨wt_fr.rf, (show 0 ≤ ((0 : Int32)).toInt by omega), ri163, mi164⟩
          · skip
            have k206 : (4 : Int32).toInt = 4 := by decide
            show ((4 : Int32).toInt - (0 : Int32).toInt + 0).toNat < n
            omega
        · skip
          have c207 := wt_nceq h158
          refine wt_T_some ?_
          have k208 : (10 : Int32).toInt = 10 := by decide
          obtain ⟨j209, j209a, j209b⟩ := wt_subI (wt_gf σ153 108 5) (10 : Int32)
          have g211 : 0 ≤ (wt_gf σ153 108 1).toInt ∧ (wt_gf σ153 108 1).toInt ≤ 500 := wt_Rf0 rσ153
          have tt212 : (wt_gf σ153 108 1).toInt = (wt_gf z34 108 1).toInt := congrArg Int32.toInt (fσ153.1 108 1 (by (try dsimp only); omega))
          have tt215 : (wt_gf z34 108 1).toInt = (wt_gf r28 108 1).toInt := congrArg Int32.toInt (l36.1 108 1 (by (try dsimp only); omega))
          have tt218 : (wt_gf r28 108 1).toInt = (wt_gf r16 108 1).toInt := congrArg Int32.toInt (f30.1 108 1 (by (try dsimp only); omega))
          have g220 : 0 ≤ (wt_gf σ 108 1).toInt ∧ (wt_gf σ 108 1).toInt ≤ 500 := wt_Rf0 r0
          exact ⟨(wt_fr.tr (wt_fr.tr (wt_fr.tr (wt_fr.tr (wt_fr.tr wt_fr.rf f6 (fun i k h => by (try dsimp only at h); exact Or.inl (by first | exact h | omega)) (fun i h => h.elim)) f18 (fun i k h => by (try dsimp only at h); rcases h with h | h | h | h | h | h; exact Or.inr (Or.inl (by first | exact h | omega)); exact Or.inr (Or.inr (Or.inl (by first | exact h | omega))); exact Or.inr (Or.inr (Or.inr (Or.inl (by first | exact h | omega)))); exact Or.inr (Or.inr (Or.inr (Or.inr (Or.inl (by first | exact h | omega))))); exact Or.inr (Or.inr (Or.inr (Or.inr (Or.inr (Or.inl (by first | exact h | omega)))))); exact Or.inr (Or.inr (Or.inr (Or.inr (Or.inr (Or.inr (Or.inl (by first | exact h | omega)))))))) (fun i h => h.elim)) f30 (fun i k h => by (try dsimp only at h); exact Or.inr (Or.inr (Or.inr (Or.inr (Or.inr (Or.inr (Or.inr (Or.inl (by first | exact h | omega))))))))) (fun i h => by (try dsimp only at h); rcases h with h | h | h | h | h; exact Or.inl (by first | exact h | omega); exact Or.inr (Or.inl (by first | exact h | omega)); exact Or.inr (Or.inr (Or.inl (by first | exact h | omega))); exact Or.inr (Or.inr (Or.inr (Or.inl (by first | exact h | omega)))); exact Or.inr (Or.inr (Or.inr (Or.inr (Or.inl (by first | exact h | omega))))))) l36 (fun i k h => by (try dsimp only at h); rcases h with h | h | h | h | h; exact Or.inr (Or.inr (Or.inr (Or.inl (by first | exact h | omega)))); exact Or.inr (Or.inr (Or.inr (Or.inr (Or.inl (by first | exact h | omega))))); exact Or.inr (Or.inr (Or.inr (Or.inr (Or.inr (Or.inl (by first | exact h | omega)))))); exact Or.inr (Or.inr (Or.inr (Or.inr (Or.inr (Or.inr (Or.inl (by first | exact h | omega))))))); exact Or.inr (Or.inr (Or.inr (Or.inr (Or.inr (Or.inr (Or.inr (Or.inl (by first | exact h | omega))))))))) (fun i h => by (try dsimp only at h); rcases h with h | h | h | h | h | h | h; exact Or.inr (Or.inr (Or.inr (Or.inl (by first | exact h | omega)))); exact Or.inr (Or.inr (Or.inr (Or.inr (Or.inl (by first | exact h | omega))))); exact Or.inl (by first | exact h | omega); exact Or.inr (Or.inr (Or.inr (Or.inr (Or.inr (Or.inr (Or.inr (Or.inr (Or.inr (Or.inr (Or.inr (Or.inr (Or.inr (Or.inr (Or.inl (by first | exact h | omega))))))))))))))); exact Or.inr (Or.inl (by first | exact h | omega)); exact Or.inr (Or.inr (Or.inr (Or.inr (Or.inr (Or.inr (Or.inr (Or.inr (Or.inr (Or.inr (Or.inr (Or.inr (Or.inr (Or.inr (Or.inr (by first | exact h | omega))))))))))))))); exact Or.inr (Or.inr (Or.inl (by first | exact h | omega))))) fσ153 (fun i k h => by (try dsimp only at h); exact Or.inr (Or.inr (Or.inr (Or.inr (Or.inr (Or.inr (Or.inr (Or.inr (Or.inl (by first | exact h | omega)))))))))) (fun i h => h.elim)), rσ153, mσ153, (show ((y1.toInt ≠ 0 → (wt_gf σ153 108 1).toInt = (wt_gf σ 108 1).toInt) ∧ (y1.toInt = 0 ∧ (wt_gf σ 108 0).toInt = 0 → (wt_gf σ153 108 1).toInt = 0)) from by omega)⟩
    · skip
      have g222 : 0 ≤ (wt_gf r28 108 7).toInt ∧ (wt_gf r28 108 7).toInt ≤ 60 := wt_Rf4 ri31
      have tt223 : (wt_gf r28 108 7).toInt = (wt_gf r16 108 7).toInt := congrArg Int32.toInt (f30.1 108 7 (by (try dsimp only); omega))
      have g225 : 0 ≤ (wt_gf r28 108 5).toInt ∧ (wt_gf r28 108 5).toInt ≤ 3 := wt_Rf3 ri31
      have tt226 : (wt_gf r28 108 5).toInt = (wt_gf r16 108 5).toInt := congrArg Int32.toInt (f30.1 108 5 (by (try dsimp only); omega))
      exact ⟨wt_fr.rf, ri31, mi32⟩
    · skip
      have g228 : 0 ≤ (wt_gf r28 108 7).toInt ∧ (wt_gf r28 108 7).toInt ≤ 60 := wt_Rf4 ri31
      have tt229 : (wt_gf r28 108 7).toInt = (wt_gf r16 108 7).toInt := congrArg Int32.toInt (f30.1 108 7 (by (try dsimp only); omega))
      have g231 : 0 ≤ (wt_gf r28 108 5).toInt ∧ (wt_gf r28 108 5).toInt ≤ 3 := wt_Rf3 ri31
      have tt232 : (wt_gf r28 108 5).toInt = (wt_gf r16 108 5).toInt := congrArg Int32.toInt (f30.1 108 5 (by (try dsimp only); omega))
      show (4 * (60 - (wt_gf r28 108 7).toInt) + 3 - (wt_gf r28 108 5).toInt).toNat < n
      omega
  · skip
    have c233 := wt_nceq h14
    refine wt_T_some ?_
    have g235 : 0 ≤ (wt_gf r4.2 108 1).toInt ∧ (wt_gf r4.2 108 1).toInt ≤ 500 := wt_Rf0 ri7
    have tt236 : (wt_gf r4.2 108 1).toInt = (wt_gf σ 108 1).toInt := congrArg Int32.toInt (f6.1 108 1 (by (try dsimp only); omega))
    exact ⟨(wt_fr.tr wt_fr.rf f6 (fun i k h => by (try dsimp only at h); exact Or.inl (by first | exact h | omega)) (fun i h => h.elim)), ri7, mi9, (show ((y1.toInt ≠ 0 → (wt_gf r4.2 108 1).toInt = (wt_gf σ 108 1).toInt) ∧ (y1.toInt = 0 ∧ (wt_gf σ 108 0).toInt = 0 → (wt_gf r4.2 108 1).toInt = 0)) from by omega)⟩
set_option maxRecDepth 100000 in
set_option maxHeartbeats 4000000 in
theorem wq_md_kase (n : Nat) (hn : 4294967297 < n) (x1 : Int32) (σ : wt_St) (r0 : wt_RI σ) (m0 : wt_M12 σ) : wt_T (wp_md_kase n x1 σ) (fun q => wt_fr (fun i k => (i = 108 ∧ k = 0) ∨ (i = 108 ∧ k = 1) ∨ (i = 108 ∧ k = 2) ∨ (i = 108 ∧ k = 4) ∨ (i = 108 ∧ k = 5) ∨ (i = 108 ∧ k = 6) ∨ (i = 108 ∧ k = 7) ∨ (i = 108 ∧ k = 24) ∨ (i = 108 ∧ k = 3) ∨ (i = 108 ∧ k = 25) ∨ (i = 108 ∧ k = 41)) (fun i => i = 118 ∨ i = 110 ∨ i = 112 ∨ i = 114 ∨ i = 116 ∨ i = 121 ∨ i = 123 ∨ i = 124 ∨ i = 119 ∨ i = 111 ∨ i = 113 ∨ i = 115 ∨ i = 117 ∨ i = 275 ∨ i = 120 ∨ i = 122) σ q.2 ∧ wt_RI q.2 ∧ wt_M12 q.2 ∧ ((x1.toInt < 0 ∨ (wt_gf σ 108 1).toInt < x1.toInt → (wt_gf q.2 108 1).toInt = (wt_gf σ 108 1).toInt) ∧ (0 ≤ x1.toInt ∧ x1.toInt ≤ (wt_gf σ 108 1).toInt → (wt_gf q.2 108 1).toInt = 0))) := by
  have bb1 := wt_bd x1
  unfold wp_md_kase
  obtain ⟨σ2, eσ2⟩ : ∃ z : wt_St, z = wt_sf σ 108 0 (0 : Int32) := ⟨_, rfl⟩
  rw [← eσ2]
  have fσ2 := wt_fr_sf eσ2
  have vσ2 := wt_ceq (wt_v_sf eσ2)
  have k3 : (0 : Int32).toInt = 0 := by decide
  have mσ2 := wt_M_sf m0 eσ2
  have rσ2 := wt_RI_fno r0 eσ2 (Or.inr (by decide +kernel))
  have g5 : 0 ≤ (wt_gf σ2 108 1).toInt ∧ (wt_gf σ2 108 1).toInt ≤ 500 := wt_Rf0 rσ2
  have tt6 : (wt_gf σ2 108 1).toInt = (wt_gf σ 108 1).toInt := congrArg Int32.toInt (fσ2.1 108 1 (by (try dsimp only); omega))
  refine wt_T_bi (wq_md_in n hn x1 (0 : Int32) (wt_gf σ2 108 1) σ2 rσ2) (fun r9 h10 => ?_)
  obtain ⟨e11, pp12⟩ := h10
  have bb13 := wt_bd r9.1
  rw [e11]
  refine wt_T_if (fun h14 => ?_) (fun h14 => ?_)
  · skip
    have c15 := wt_ceq h14
    have k16 : (1 : Int32).toInt = 1 := by decide
    refine wt_T.imp (wq_md_kase_B23 n hn x1 (1 : Int32) σ2 rσ2 mσ2 (by first | with_reducible assumption | omega)) (fun r17 h18 => ?_)
    have bb19 := wt_bd r17.1
    obtain ⟨f20, ri21, mi22, pp23⟩ := h18
    have g25 : 0 ≤ (wt_gf r17.2 108 1).toInt ∧ (wt_gf r17.2 108 1).toInt ≤ 500 := wt_Rf0 ri21
    have bb26 := wt_bd (wt_gf σ2 108 0)
    exact ⟨(wt_fr.tr (wt_fr.tr wt_fr.rf fσ2 (fun i k h => by (try dsimp only at h); exact Or.inl (by first | exact h | omega)) (fun i h => h.elim)) f20 (fun i k h => by (try dsimp only at h); rcases h with h | h | h | h | h | h | h | h | h | h | h; exact Or.inl (by first | exact h | omega); exact Or.inr (Or.inl (by first | exact h | omega)); exact Or.inr (Or.inr (Or.inl (by first | exact h | omega))); exact Or.inr (Or.inr (Or.inr (Or.inl (by first | exact h | omega)))); exact Or.inr (Or.inr (Or.inr (Or.inr (Or.inl (by first | exact h | omega))))); exact Or.inr (Or.inr (Or.inr (Or.inr (Or.inr (Or.inl (by first | exact h | omega)))))); exact Or.inr (Or.inr (Or.inr (Or.inr (Or.inr (Or.inr (Or.inl (by first | exact h | omega))))))); exact Or.inr (Or.inr (Or.inr (Or.inr (Or.inr (Or.inr (Or.inr (Or.inl (by first | exact h | omega)))))))); exact Or.inr (Or.inr (Or.inr (Or.inr (Or.inr (Or.inr (Or.inr (Or.inr (Or.inl (by first | exact h | omega))))))))); exact Or.inr (Or.inr (Or.inr (Or.inr (Or.inr (Or.inr (Or.inr (Or.inr (Or.inr (Or.inl (by first | exact h | omega)))))))))); exact Or.inr (Or.inr (Or.inr (Or.inr (Or.inr (Or.inr (Or.inr (Or.inr (Or.inr (Or.inr (by first | exact h | omega))))))))))) (fun i h => by (try dsimp only at h); rcases h with h | h | h | h | h | h | h | h | h | h | h | h | h | h | h | h; exact Or.inl (by first | exact h | omega); exact Or.inr (Or.inl (by first | exact h | omega)); exact Or.inr (Or.inr (Or.inl (by first | exact h | omega))); exact Or.inr (Or.inr (Or.inr (Or.inl (by first | exact h | omega)))); exact Or.inr (Or.inr (Or.inr (Or.inr (Or.inl (by first | exact h | omega))))); exact Or.inr (Or.inr (Or.inr (Or.inr (Or.inr (Or.inl (by first | exact h | omega)))))); exact Or.inr (Or.inr (Or.inr (Or.inr (Or.inr (Or.inr (Or.inl (by first | exact h | omega))))))); exact Or.inr (Or.inr (Or.inr (Or.inr (Or.inr (Or.inr (Or.inr (Or.inl (by first | exact h | omega)))))))); exact Or.inr (Or.inr (Or.inr (Or.inr (Or.inr (Or.inr (Or.inr (Or.inr (Or.inl (by first | exact h | omega))))))))); exact Or.inr (Or.inr (Or.inr (Or.inr (Or.inr (Or.inr (Or.inr (Or.inr (Or.inr (Or.inl (by first | exact h | omega)))))))))); exact Or.inr (Or.inr (Or.inr (Or.inr (Or.inr (Or.inr (Or.inr (Or.inr (Or.inr (Or.inr (Or.inl (by first | exact h | omega))))))))))); exact Or.inr (Or.inr (Or.inr (Or.inr (Or.inr (Or.inr (Or.inr (Or.inr (Or.inr (Or.inr (Or.inr (Or.inl (by first | exact h | omega)))))))))))); exact Or.inr (Or.inr (Or.inr (Or.inr (Or.inr (Or.inr (Or.inr (Or.inr (Or.inr (Or.inr (Or.inr (Or.inr (Or.inl (by first | exact h | omega))))))))))))); exact Or.inr (Or.inr (Or.inr (Or.inr (Or.inr (Or.inr (Or.inr (Or.inr (Or.inr (Or.inr (Or.inr (Or.inr (Or.inr (Or.inl (by first | exact h | omega)))))))))))))); exact Or.inr (Or.inr (Or.inr (Or.inr (Or.inr (Or.inr (Or.inr (Or.inr (Or.inr (Or.inr (Or.inr (Or.inr (Or.inr (Or.inr (Or.inl (by first | exact h | omega))))))))))))))); exact Or.inr (Or.inr (Or.inr (Or.inr (Or.inr (Or.inr (Or.inr (Or.inr (Or.inr (Or.inr (Or.inr (Or.inr (Or.inr (Or.inr (Or.inr (by first | exact h | omega))))))))))))))))), ri21, mi22, (show ((x1.toInt < 0 ∨ (wt_gf σ 108 1).toInt < x1.toInt → (wt_gf r17.2 108 1).toInt = (wt_gf σ 108 1).toInt) ∧ (0 ≤ x1.toInt ∧ x1.toInt ≤ (wt_gf σ 108 1).toInt → (wt_gf r17.2 108 1).toInt = 0)) from by omega)⟩
  · skip
    have c27 := wt_nceq h14
    refine wt_T.imp (wq_md_kase_B23 n hn x1 (0 : Int32) σ2 rσ2 mσ2 (by first | with_reducible assumption | omega)) (fun r28 h29 => ?_)
    have bb30 := wt_bd r28.1
    obtain ⟨f31, ri32, mi33, pp34⟩ := h29
    have g36 : 0 ≤ (wt_gf r28.2 108 1).toInt ∧ (wt_gf r28.2 108 1).toInt ≤ 500 := wt_Rf0 ri32
    have bb37 := wt_bd (wt_gf σ2 108 0)
    exact ⟨(wt_fr.tr (wt_fr.tr wt_fr.rf fσ2 (fun i k h => by (try dsimp only at h); exact Or.inl (by first | exact h | omega)) (fun i h => h.elim)) f31 (fun i k h => by (try dsimp only at h); rcases h with h | h | h | h | h | h | h | h | h | h | h; exact Or.inl (by first | exact h | omega); exact Or.inr (Or.inl (by first | exact h | omega)); exact Or.inr (Or.inr (Or.inl (by first | exact h | omega))); exact Or.inr (Or.inr (Or.inr (Or.inl (by first | exact h | omega)))); exact Or.inr (Or.inr (Or.inr (Or.inr (Or.inl (by first | exact h | omega))))); exact Or.inr (Or.inr (Or.inr (Or.inr (Or.inr (Or.inl (by first | exact h | omega)))))); exact Or.inr (Or.inr (Or.inr (Or.inr (Or.inr (Or.inr (Or.inl (by first | exact h | omega))))))); exact Or.inr (Or.inr (Or.inr (Or.inr (Or.inr (Or.inr (Or.inr (Or.inl (by first | exact h | omega)))))))); exact Or.inr (Or.inr (Or.inr (Or.inr (Or.inr (Or.inr (Or.inr (Or.inr (Or.inl (by first | exact h | omega))))))))); exact Or.inr (Or.inr (Or.inr (Or.inr (Or.inr (Or.inr (Or.inr (Or.inr (Or.inr (Or.inl (by first | exact h | omega)))))))))); exact Or.inr (Or.inr (Or.inr (Or.inr (Or.inr (Or.inr (Or.inr (Or.inr (Or.inr (Or.inr (by first | exact h | omega))))))))))) (fun i h => by (try dsimp only at h); rcases h with h | h | h | h | h | h | h | h | h | h | h | h | h | h | h | h; exact Or.inl (by first | exact h | omega); exact Or.inr (Or.inl (by first | exact h | omega)); exact Or.inr (Or.inr (Or.inl (by first | exact h | omega))); exact Or.inr (Or.inr (Or.inr (Or.inl (by first | exact h | omega)))); exact Or.inr (Or.inr (Or.inr (Or.inr (Or.inl (by first | exact h | omega))))); exact Or.inr (Or.inr (Or.inr (Or.inr (Or.inr (Or.inl (by first | exact h | omega)))))); exact Or.inr (Or.inr (Or.inr (Or.inr (Or.inr (Or.inr (Or.inl (by first | exact h | omega))))))); exact Or.inr (Or.inr (Or.inr (Or.inr (Or.inr (Or.inr (Or.inr (Or.inl (by first | exact h | omega)))))))); exact Or.inr (Or.inr (Or.inr (Or.inr (Or.inr (Or.inr (Or.inr (Or.inr (Or.inl (by first | exact h | omega))))))))); exact Or.inr (Or.inr (Or.inr (Or.inr (Or.inr (Or.inr (Or.inr (Or.inr (Or.inr (Or.inl (by first | exact h | omega)))))))))); exact Or.inr (Or.inr (Or.inr (Or.inr (Or.inr (Or.inr (Or.inr (Or.inr (Or.inr (Or.inr (Or.inl (by first | exact h | omega))))))))))); exact Or.inr (Or.inr (Or.inr (Or.inr (Or.inr (Or.inr (Or.inr (Or.inr (Or.inr (Or.inr (Or.inr (Or.inl (by first | exact h | omega)))))))))))); exact Or.inr (Or.inr (Or.inr (Or.inr (Or.inr (Or.inr (Or.inr (Or.inr (Or.inr (Or.inr (Or.inr (Or.inr (Or.inl (by first | exact h | omega))))))))))))); exact Or.inr (Or.inr (Or.inr (Or.inr (Or.inr (Or.inr (Or.inr (Or.inr (Or.inr (Or.inr (Or.inr (Or.inr (Or.inr (Or.inl (by first | exact h | omega)))))))))))))); exact Or.inr (Or.inr (Or.inr (Or.inr (Or.inr (Or.inr (Or.inr (Or.inr (Or.inr (Or.inr (Or.inr (Or.inr (Or.inr (Or.inr (Or.inl (by first | exact h | omega))))))))))))))); exact Or.inr (Or.inr (Or.inr (Or.inr (Or.inr (Or.inr (Or.inr (Or.inr (Or.inr (Or.inr (Or.inr (Or.inr (Or.inr (Or.inr (Or.inr (by first | exact h | omega))))))))))))))))), ri32, mi33, (show ((x1.toInt < 0 ∨ (wt_gf σ 108 1).toInt < x1.toInt → (wt_gf r28.2 108 1).toInt = (wt_gf σ 108 1).toInt) ∧ (0 ≤ x1.toInt ∧ x1.toInt ≤ (wt_gf σ 108 1).toInt → (wt_gf r28.2 108 1).toInt = 0)) from by omega)⟩
set_option maxRecDepth 100000 in
set_option maxHeartbeats 4000000 in
theorem wq_md_lacks (n : Nat) (hn : 4294967297 < n) (x1 : Int32) (x2 : Int32) (σ : wt_St) (r0 : wt_RI σ) : wt_T (wp_md_lacks n x1 x2 σ) (fun q => wt_fr (fun i k => (i = 108 ∧ k = 0)) (fun i => i = 287) σ q.2 ∧ wt_RI q.2) := by
  have bb1 := wt_bd x1
  have bb2 := wt_bd x2
  unfold wp_md_lacks
  obtain ⟨σ3, eσ3⟩ : ∃ z : wt_St, z = wt_sf σ 108 0 (0 : Int32) := ⟨_, rfl⟩
  rw [← eσ3]
  have fσ3 := wt_fr_sf eσ3
  have vσ3 := wt_ceq (wt_v_sf eσ3)
  have k4 : (0 : Int32).toInt = 0 := by decide
  have rσ3 := wt_RI_fno r0 eσ3 (Or.inr (by decide +kernel))
  refine wt_T_bi (wq_md_isText n hn x1 σ3 rσ3) (fun r5 h6 => ?_)
  obtain ⟨e7, pp8⟩ := h6
  have bb9 := wt_bd r5.1
  rw [e7]
  have g11 : 0 ≤ (wt_gf σ3 108 39).toInt ∧ (wt_gf σ3 108 39).toInt ≤ 8 := wt_Rf7 rσ3
  have tt12 : (wt_gf σ3 108 39).toInt = (wt_gf σ 108 39).toInt := congrArg Int32.toInt (fσ3.1 108 39 (by (try dsimp only); omega))
  refine wt_T_if (fun h15 => ?_) (fun h15 => ?_)
  · skip
    have c16 := wt_ceq h15
    unfold wp_md_lacks_B19
    have k17 : (1 : Int32).toInt = 1 := by decide
    refine wt_T_bi (wq_md_bad n hn (1 : Int32) (1 : Int32) σ3 rσ3 (by first | with_reducible assumption | omega)) (fun r18 h19 => ?_)
    obtain ⟨f20, ri21, pp22⟩ := h19
    have bb23 := wt_bd r18.1
    have bb24 := wt_bd (wt_gf r18.2 108 0)
    have bb25 := wt_bd (wt_gf σ3 108 0)
    refine wt_T_if (fun h26 => ?_) (fun h26 => ?_)
    · skip
      have c27 := wt_ceq h26
      refine wt_T_bi (wq_md_isCopies n hn x2 r18.2 ri21) (fun r28 h29 => ?_)
      obtain ⟨e30, pp31⟩ := h29
      have bb32 := wt_bd r28.1
      rw [e30]
      refine wt_T_if (fun h33 => ?_) (fun h33 => ?_)
      · skip
        have c34 := wt_ceq h33
        unfold wp_md_lacks_B39
        have k35 : (2 : Int32).toInt = 2 := by decide
        refine wt_T_bi (wq_md_bad n hn (1 : Int32) (2 : Int32) r18.2 ri21 (by first | with_reducible assumption | omega)) (fun r36 h37 => ?_)
        obtain ⟨f38, ri39, pp40⟩ := h37
        have bb41 := wt_bd r36.1
        have bb42 := wt_bd (wt_gf r36.2 108 0)
        refine wt_T_if (fun h43 => ?_) (fun h43 => ?_)
        · skip
          have c44 := wt_ceq h43
          refine wt_T_bi (wq_md_needsText n hn x1 r36.2 ri39 (by first | with_reducible assumption | omega) (by first | with_reducible assumption | omega)) (fun r45 h46 => ?_)
          obtain ⟨f47, ri48, pp49⟩ := h46
          refine wt_T_bi (wq_md_lacking n hn x2 r45 ri48) (fun r50 h51 => ?_)
          obtain ⟨e52, pp53⟩ := h51
          have bb54 := wt_bd r50.1
          rw [e52]
          refine wt_T_some ?_
          exact ⟨(wt_fr.tr (wt_fr.tr (wt_fr.tr (wt_fr.tr wt_fr.rf fσ3 (fun i k h => by (try dsimp only at h); exact (by first | exact h | omega)) (fun i h => h.elim)) f20 (fun i k h => by (try dsimp only at h); exact (by first | exact h | omega)) (fun i h => h.elim)) f38 (fun i k h => by (try dsimp only at h); exact (by first | exact h | omega)) (fun i h => h.elim)) f47 (fun i k h => h.elim) (fun i h => by (try dsimp only at h); exact (by first | exact h | omega))), ri48⟩
        · skip
          have c55 := wt_nceq h43
          refine wt_T_some ?_
          exact ⟨(wt_fr.tr (wt_fr.tr (wt_fr.tr wt_fr.rf fσ3 (fun i k h => by (try dsimp only at h); exact (by first | exact h | omega)) (fun i h => h.elim)) f20 (fun i k h => by (try dsimp only at h); exact (by first | exact h | omega)) (fun i h => h.elim)) f38 (fun i k h => by (try dsimp only at h); exact (by first | exact h | omega)) (fun i h => h.elim)), ri39⟩
      · skip
        have c56 := wt_nceq h33
        unfold wp_md_lacks_B39
        have k57 : (2 : Int32).toInt = 2 := by decide
        refine wt_T_bi (wq_md_bad n hn (0 : Int32) (2 : Int32) r18.2 ri21 (by first | with_reducible assumption | omega)) (fun r58 h59 => ?_)
        obtain ⟨f60, ri61, pp62⟩ := h59
        have bb63 := wt_bd r58.1
        have bb64 := wt_bd (wt_gf r58.2 108 0)
        refine wt_T_if (fun h65 => ?_) (fun h65 => ?_)
        · skip
          have c66 := wt_ceq h65
          refine wt_T_bi (wq_md_needsText n hn x1 r58.2 ri61 (by first | with_reducible assumption | omega) (by first | with_reducible assumption | omega)) (fun r67 h68 => ?_)
          obtain ⟨f69, ri70, pp71⟩ := h68
          refine wt_T_bi (wq_md_lacking n hn x2 r67 ri70) (fun r72 h73 => ?_)
          obtain ⟨e74, pp75⟩ := h73
          have bb76 := wt_bd r72.1
          rw [e74]
          refine wt_T_some ?_
          exact ⟨(wt_fr.tr (wt_fr.tr (wt_fr.tr (wt_fr.tr wt_fr.rf fσ3 (fun i k h => by (try dsimp only at h); exact (by first | exact h | omega)) (fun i h => h.elim)) f20 (fun i k h => by (try dsimp only at h); exact (by first | exact h | omega)) (fun i h => h.elim)) f60 (fun i k h => by (try dsimp only at h); exact (by first | exact h | omega)) (fun i h => h.elim)) f69 (fun i k h => h.elim) (fun i h => by (try dsimp only at h); exact (by first | exact h | omega))), ri70⟩
        · skip
          have c77 := wt_nceq h65
          refine wt_T_some ?_
          exact ⟨(wt_fr.tr (wt_fr.tr (wt_fr.tr wt_fr.rf fσ3 (fun i k h => by (try dsimp only at h); exact (by first | exact h | omega)) (fun i h => h.elim)) f20 (fun i k h => by (try dsimp only at h); exact (by first | exact h | omega)) (fun i h => h.elim)) f60 (fun i k h => by (try dsimp only at h); exact (by first | exact h | omega)) (fun i h => h.elim)), ri61⟩
    · skip
      have c78 := wt_nceq h26
      refine wt_T_some ?_
      exact ⟨(wt_fr.tr (wt_fr.tr wt_fr.rf fσ3 (fun i k h => by (try dsimp only at h); exact (by first | exact h | omega)) (fun i h => h.elim)) f20 (fun i k h => by (try dsimp only at h); exact (by first | exact h | omega)) (fun i h => h.elim)), ri21⟩
  · skip
    have c79 := wt_nceq h15
    unfold wp_md_lacks_B19
    have k80 : (1 : Int32).toInt = 1 := by decide
    refine wt_T_bi (wq_md_bad n hn (0 : Int32) (1 : Int32) σ3 rσ3 (by first | with_reducible assumption | omega)) (fun r81 h82 => ?_)
    obtain ⟨f83, ri84, pp85⟩ := h82
    have bb86 := wt_bd r81.1
    have bb87 := wt_bd (wt_gf r81.2 108 0)
    have bb88 := wt_bd (wt_gf σ3 108 0)
    refine wt_T_if (fun h89 => ?_) (fun h89 => ?_)
    · skip
      have c90 := wt_ceq h89
      refine wt_T_bi (wq_md_isCopies n hn x2 r81.2 ri84) (fun r91 h92 => ?_)
      obtain ⟨e93, pp94⟩ := h92
      have bb95 := wt_bd r91.1
      rw [e93]
      refine wt_T_if (fun h96 => ?_) (fun h96 => ?_)
      · skip
        have c97 := wt_ceq h96
        unfold wp_md_lacks_B39
        have k98 : (2 : Int32).toInt = 2 := by decide
        refine wt_T_bi (wq_md_bad n hn (1 : Int32) (2 : Int32) r81.2 ri84 (by first | with_reducible assumption | omega)) (fun r99 h100 => ?_)
        obtain ⟨f101, ri102, pp103⟩ := h100
        have bb104 := wt_bd r99.1
        have bb105 := wt_bd (wt_gf r99.2 108 0)
        refine wt_T_if (fun h106 => ?_) (fun h106 => ?_)
        · skip
          have c107 := wt_ceq h106
          refine wt_T_bi (wq_md_needsText n hn x1 r99.2 ri102 (by first | with_reducible assumption | omega) (by first | with_reducible assumption | omega)) (fun r108 h109 => ?_)
          obtain ⟨f110, ri111, pp112⟩ := h109
          refine wt_T_bi (wq_md_lacking n hn x2 r108 ri111) (fun r113 h114 => ?_)
          obtain ⟨e115, pp116⟩ := h114
          have bb117 := wt_bd r113.1
          rw [e115]
          refine wt_T_some ?_
          exact ⟨(wt_fr.tr (wt_fr.tr (wt_fr.tr (wt_fr.tr wt_fr.rf fσ3 (fun i k h => by (try dsimp only at h); exact (by first | exact h | omega)) (fun i h => h.elim)) f83 (fun i k h => by (try dsimp only at h); exact (by first | exact h | omega)) (fun i h => h.elim)) f101 (fun i k h => by (try dsimp only at h); exact (by first | exact h | omega)) (fun i h => h.elim)) f110 (fun i k h => h.elim) (fun i h => by (try dsimp only at h); exact (by first | exact h | omega))), ri111⟩
        · skip
          have c118 := wt_nceq h106
          refine wt_T_some ?_
          exact ⟨(wt_fr.tr (wt_fr.tr (wt_fr.tr wt_fr.rf fσ3 (fun i k h => by (try dsimp only at h); exact (by first | exact h | omega)) (fun i h => h.elim)) f83 (fun i k h => by (try dsimp only at h); exact (by first | exact h | omega)) (fun i h => h.elim)) f101 (fun i k h => by (try dsimp only at h); exact (by first | exact h | omega)) (fun i h => h.elim)), ri102⟩
      · skip
        have c119 := wt_nceq h96
        unfold wp_md_lacks_B39
        have k120 : (2 : Int32).toInt = 2 := by decide
        refine wt_T_bi (wq_md_bad n hn (0 : Int32) (2 : Int32) r81.2 ri84 (by first | with_reducible assumption | omega)) (fun r121 h122 => ?_)
        obtain ⟨f123, ri124, pp125⟩ := h122
        have bb126 := wt_bd r121.1
        have bb127 := wt_bd (wt_gf r121.2 108 0)
        refine wt_T_if (fun h128 => ?_) (fun h128 => ?_)
        · skip
          have c129 := wt_ceq h128
          refine wt_T_bi (wq_md_needsText n hn x1 r121.2 ri124 (by first | with_reducible assumption | omega) (by first | with_reducible assumption | omega)) (fun r130 h131 => ?_)
          obtain ⟨f132, ri133, pp134⟩ := h131
          refine wt_T_bi (wq_md_lacking n hn x2 r130 ri133) (fun r135 h136 => ?_)
          obtain ⟨e137, pp138⟩ := h136
          have bb139 := wt_bd r135.1
          rw [e137]
          refine wt_T_some ?_
          exact ⟨(wt_fr.tr (wt_fr.tr (wt_fr.tr (wt_fr.tr wt_fr.rf fσ3 (fun i k h => by (try dsimp only at h); exact (by first | exact h | omega)) (fun i h => h.elim)) f83 (fun i k h => by (try dsimp only at h); exact (by first | exact h | omega)) (fun i h => h.elim)) f123 (fun i k h => by (try dsimp only at h); exact (by first | exact h | omega)) (fun i h => h.elim)) f132 (fun i k h => h.elim) (fun i h => by (try dsimp only at h); exact (by first | exact h | omega))), ri133⟩
        · skip
          have c140 := wt_nceq h128
          refine wt_T_some ?_
          exact ⟨(wt_fr.tr (wt_fr.tr (wt_fr.tr wt_fr.rf fσ3 (fun i k h => by (try dsimp only at h); exact (by first | exact h | omega)) (fun i h => h.elim)) f83 (fun i k h => by (try dsimp only at h); exact (by first | exact h | omega)) (fun i h => h.elim)) f123 (fun i k h => by (try dsimp only at h); exact (by first | exact h | omega)) (fun i h => h.elim)), ri124⟩
    · skip
      have c141 := wt_nceq h89
      refine wt_T_some ?_
      exact ⟨(wt_fr.tr (wt_fr.tr wt_fr.rf fσ3 (fun i k h => by (try dsimp only at h); exact (by first | exact h | omega)) (fun i h => h.elim)) f83 (fun i k h => by (try dsimp only at h); exact (by first | exact h | omega)) (fun i h => h.elim)), ri84⟩
