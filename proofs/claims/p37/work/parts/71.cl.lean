theorem wq_ap_look (n : Nat) (hn : 4294967297 < n) (a0 : Nat) (x1 : Int32) (σ : wt_St) : wt_T (wp_ap_look n a0 x1 σ) (fun q => q.2 = σ ∧ q.1 = wt_lk a0 x1 σ) := by
  unfold wp_ap_look wt_lk
  refine wt_T_if (fun h => wt_T_some ⟨rfl, (if_pos h).symm⟩) (fun h => ?_)
  rw [if_neg h]
  refine wt_T_if (fun h2 => wt_T_some ⟨rfl, (if_pos h2).symm⟩) (fun h2 => ?_)
  rw [if_neg h2]
  have k0 : (0 : Int32).toInt = 0 := by decide
  have b1 := wt_ncl h
  have b2 := wt_ncle h2
  have b3 := wt_lnI a0
  exact wt_T_gd (wt_ix (by omega) (by omega)) (wt_T_some ⟨rfl, rfl⟩)
theorem wq_sk_pieces (n : Nat) (hn : 4294967297 < n) (x1 : Int32) (σ : wt_St) : wt_T (wp_sk_pieces n x1 σ) (fun q => q.2 = σ ∧ q.1 = wt_lk 5 x1 σ) := by
  unfold wp_sk_pieces
  exact wt_T_bi (wq_ap_look n hn _ _ _) (fun q h => wt_T_some h)
theorem wq_tx_lengthOf (n : Nat) (hn : 4294967297 < n) (x1 : Int32) (σ : wt_St) : wt_T (wp_tx_lengthOf n x1 σ) (fun q => q.2 = σ ∧ q.1 = wt_lk 36 x1 σ) := by
  unfold wp_tx_lengthOf
  exact wt_T_bi (wq_ap_look n hn _ _ _) (fun q h => wt_T_some h)
theorem wq_tg_membersLike (n : Nat) (hn : 4294967297 < n) (t0 : Nat) (x1 : Int32) (σ : wt_St) : wt_T (wp_tg_membersLike n t0 x1 σ) (fun q => q.2 = σ ∧ q.1 = wt_lk2 (t0 + 6) (t0 + 4) x1 σ) := by
  unfold wp_tg_membersLike
  refine wt_T_bi (wq_ap_look n hn _ _ _) (fun q h => ?_)
  rw [h.1, h.2]
  exact wt_T_bi (wq_ap_look n hn _ _ _) (fun q h => wt_T_some h)
set_option maxRecDepth 100000 in
set_option maxHeartbeats 4000000 in
theorem wq_pg_piecesOn (n : Nat) (hn : 4294967297 < n) (x1 : Int32) (σ : wt_St) : wt_T (wp_pg_piecesOn n x1 σ) (fun q => q.2 = σ) := by
  unfold wp_pg_piecesOn
  have k6 : (0 : Int32).toInt = 0 := by decide
  refine wt_T_it (fun s : Int32 × Int32 × wt_St => s.2.2 = σ ∧ 0 ≤ (s.2.1).toInt) (fun s : Int32 × Int32 × wt_St => ((312 : Int32).toInt - s.2.1.toInt + 0).toNat) (fun KK1 z2 I3 hKK1 => ?_) _ _ ?_ ?_
  · skip
    obtain ⟨l4, l5⟩ := I3
    unfold wp_pg_piecesOn_B4
    rw [l4]
    have k7 : (312 : Int32).toInt = 312 := by decide
    have bb8 := wt_bd z2.2.1
    refine wt_T_if (fun h9 => ?_) (fun h9 => ?_)
    · skip
      have c10 := wt_cle h9
      refine wt_T_some ?_
      exact rfl
    · skip
      have c11 := wt_ncle h9
      refine wt_T_bi (wq_ap_look n hn 41 z2.2.1 σ) (fun r12 h13 => ?_)
      obtain ⟨e14, e14v⟩ := h13
      have e15 := wt_ceq e14v
      have bb16 := wt_bd (wt_lk 41 z2.2.1 σ)
      have bb17 := wt_bd r12.1
      rw [e14]
      have bb18 := wt_bd x1
      refine wt_T_if (fun h19 => ?_) (fun h19 => ?_)
      · skip
        have c20 := wt_ceq h19
        unfold wp_pg_piecesOn_B32
        refine hKK1 _ ⟨rfl, (wt_nn (B := (312 : Int32)) (by omega) (by first | (rw [l4]; omega) | (rw [l4]; done) | omega))⟩ ?_
        show ((312 : Int32).toInt - (z2.2.1 + (1 : Int32)).toInt + 0).toNat < ((312 : Int32).toInt - z2.2.1.toInt + 0).toNat
        exact wt_mu (by first | (rw [l4]; omega) | (rw [l4]; done) | omega) (by first | (rw [l4]; omega) | (rw [l4]; done) | omega)
      · skip
        have c21 := wt_nceq h19
        unfold wp_pg_piecesOn_B32
        refine hKK1 _ ⟨rfl, (wt_nn (B := (312 : Int32)) (by omega) (by first | (rw [l4]; omega) | (rw [l4]; done) | omega))⟩ ?_
        show ((312 : Int32).toInt - (z2.2.1 + (1 : Int32)).toInt + 0).toNat < ((312 : Int32).toInt - z2.2.1.toInt + 0).toNat
        exact wt_mu (by first | (rw [l4]; omega) | (rw [l4]; done) | omega) (by first | (rw [l4]; omega) | (rw [l4]; done) | omega)
  · skip
    have k22 : (312 : Int32).toInt = 312 := by decide
    exact ⟨rfl, (show 0 ≤ ((0 : Int32)).toInt by omega)⟩
  · skip
    have k23 : (312 : Int32).toInt = 312 := by decide
    show ((312 : Int32).toInt - (0 : Int32).toInt + 0).toNat < n
    omega
set_option maxRecDepth 100000 in
set_option maxHeartbeats 4000000 in
theorem wq_pg_stands (n : Nat) (hn : 4294967297 < n) (x1 : Int32) (σ : wt_St) : wt_T (wp_pg_stands n x1 σ) (fun q => q.2 = σ) := by
  unfold wp_pg_stands
  have bb1 := wt_bd x1
  have k2 : (0 : Int32).toInt = 0 := by decide
  refine wt_T_if (fun h3 => ?_) (fun h3 => ?_)
  · skip
    have c4 := wt_clt h3
    refine wt_T_some ?_
    exact rfl
  · skip
    have c5 := wt_ncl h3
    have k6 : (4 : Int32).toInt = 4 := by decide
    refine wt_T_if (fun h7 => ?_) (fun h7 => ?_)
    · skip
      have c8 := wt_cle h7
      refine wt_T_some ?_
      exact rfl
    · skip
      have c9 := wt_ncle h7
      refine wt_T_bi (wq_ap_look n hn 43 x1 σ) (fun r10 h11 => ?_)
      obtain ⟨e12, e12v⟩ := h11
      have e13 := wt_ceq e12v
      have bb14 := wt_bd (wt_lk 43 x1 σ)
      have bb15 := wt_bd r10.1
      rw [e12]
      refine wt_T_if (fun h16 => ?_) (fun h16 => ?_)
      · skip
        have c17 := wt_ceq h16
        rw [wt_lm1] at c17
        refine wt_T_some ?_
        exact rfl
      · skip
        have c18 := wt_nceq h16
        rw [wt_lm1] at c18
        refine wt_T_some ?_
        exact rfl
set_option maxRecDepth 100000 in
set_option maxHeartbeats 4000000 in
theorem wq_ap_put (n : Nat) (hn : 4294967297 < n) (a0 : Nat) (x1 : Int32) (x2 : Int32) (σ : wt_St) : wt_T (wp_ap_put n a0 x1 x2 σ) (fun q => wt_fr (fun i k => False) (fun i => i = a0) σ q) := by
  unfold wp_ap_put
  have bb1 := wt_bd x1
  have k2 : (0 : Int32).toInt = 0 := by decide
  refine wt_T_if (fun h3 => ?_) (fun h3 => ?_)
  · skip
    have c4 := wt_clt h3
    refine wt_T_some ?_
    exact wt_fr.rf
  · skip
    have c5 := wt_ncl h3
    have bb6 := wt_lnI a0
    refine wt_T_if (fun h7 => ?_) (fun h7 => ?_)
    · skip
      have c8 := wt_cle h7
      refine wt_T_some ?_
      exact wt_fr.rf
    · skip
      have c9 := wt_ncle h7
      have bb10 := wt_ln_bd a0
      refine wt_T_gd (wt_ix (by omega) (by omega)) ?_
      obtain ⟨σ11, eσ11⟩ : ∃ z : wt_St, z = wt_sa σ a0 (Int32.toNatClampNeg x1) x2 := ⟨_, rfl⟩
      rw [← eσ11]
      have fσ11 := wt_fr_sa eσ11
      have vσ11 := wt_ceq (wt_v_sa eσ11)
      refine wt_T_some ?_
      exact (wt_fr.tr wt_fr.rf fσ11 (fun i k h => h.elim) (fun i h => by (try dsimp only at h); exact (by first | exact h | omega)))
set_option maxRecDepth 100000 in
set_option maxHeartbeats 4000000 in
theorem wq_st_clearPage (n : Nat) (hn : 4294967297 < n) (t0 : Nat) (x1 : Int32) (σ : wt_St) : wt_T (wp_st_clearPage n t0 x1 σ) (fun q => wt_fr (fun i k => False) (fun i => i = t0 + 4 ∨ i = t0 + 2) σ q) := by
  unfold wp_st_clearPage
  have k6 : (0 : Int32).toInt = 0 := by decide
  refine wt_T_it (fun s : Int32 × wt_St => wt_fr (fun i k => False) (fun i => i = t0 + 2) σ s.2 ∧ 0 ≤ (s.1).toInt) (fun s : Int32 × wt_St => ((312 : Int32).toInt - s.1.toInt + 0).toNat) (fun KK1 z2 I3 hKK1 => ?_) _ _ ?_ ?_
  · skip
    obtain ⟨l4, l5⟩ := I3
    unfold wp_st_clearPage_B2
    have k7 : (312 : Int32).toInt = 312 := by decide
    have bb8 := wt_bd z2.1
    refine wt_T_if (fun h9 => ?_) (fun h9 => ?_)
    · skip
      have c10 := wt_cle h9
      refine wt_T_bi (wq_ap_put n hn (t0 + 4) x1 (-1 : Int32) z2.2) (fun r11 h12 => ?_)
      have f13 := h12
      refine wt_T_some ?_
      exact (wt_fr.tr (wt_fr.tr wt_fr.rf l4 (fun i k h => h.elim) (fun i h => by (try dsimp only at h); exact Or.inr (by first | exact h | omega))) f13 (fun i k h => h.elim) (fun i h => by (try dsimp only at h); exact Or.inl (by first | exact h | omega)))
    · skip
      have c14 := wt_ncle h9
      refine wt_T_gd (wt_ix (by omega) (by omega)) ?_
      have bb15 := wt_tn z2.1
      have bb16 := wt_bd (wt_ga z2.2 (t0 + 2) (Int32.toNatClampNeg z2.1))
      have bb17 := wt_bd x1
      refine wt_T_if (fun h18 => ?_) (fun h18 => ?_)
      · skip
        have c19 := wt_ceq h18
        refine wt_T_gd (wt_ix (by omega) (by omega)) ?_
        obtain ⟨σ20, eσ20⟩ : ∃ z : wt_St, z = wt_sa z2.2 (t0 + 2) (Int32.toNatClampNeg z2.1) (-1 : Int32) := ⟨_, rfl⟩
        rw [← eσ20]
        have fσ20 := wt_fr_sa eσ20
        have vσ20 := wt_ceq (wt_v_sa eσ20)
        unfold wp_st_clearPage_B28
        refine hKK1 _ ⟨(wt_fr.tr (wt_fr.tr wt_fr.rf l4 (fun i k h => h.elim) (fun i h => by (try dsimp only at h); exact (by first | exact h | omega))) fσ20 (fun i k h => h.elim) (fun i h => by (try dsimp only at h); exact (by first | exact h | omega))), (wt_nn (B := (312 : Int32)) (by omega) (by omega))⟩ ?_
        show ((312 : Int32).toInt - (z2.1 + (1 : Int32)).toInt + 0).toNat < ((312 : Int32).toInt - z2.1.toInt + 0).toNat
        exact wt_mu (by omega) (by omega)
      · skip
        have c21 := wt_nceq h18
        unfold wp_st_clearPage_B28
        refine hKK1 _ ⟨(wt_fr.tr wt_fr.rf l4 (fun i k h => h.elim) (fun i h => by (try dsimp only at h); exact (by first | exact h | omega))), (wt_nn (B := (312 : Int32)) (by omega) (by omega))⟩ ?_
        show ((312 : Int32).toInt - (z2.1 + (1 : Int32)).toInt + 0).toNat < ((312 : Int32).toInt - z2.1.toInt + 0).toNat
        exact wt_mu (by omega) (by omega)
  · skip
    have k22 : (312 : Int32).toInt = 312 := by decide
    exact ⟨wt_fr.rf, (show 0 ≤ ((0 : Int32)).toInt by omega)⟩
  · skip
    have k23 : (312 : Int32).toInt = 312 := by decide
    show ((312 : Int32).toInt - (0 : Int32).toInt + 0).toNat < n
    omega
set_option maxRecDepth 100000 in
set_option maxHeartbeats 4000000 in
theorem wq_tx_has (n : Nat) (hn : 4294967297 < n) (x1 : Int32) (σ : wt_St) : wt_T (wp_tx_has n x1 σ) (fun q => q.2 = σ) := by
  unfold wp_tx_has
  have bb1 := wt_bd x1
  have k2 : (0 : Int32).toInt = 0 := by decide
  refine wt_T_if (fun h3 => ?_) (fun h3 => ?_)
  · skip
    have c4 := wt_clt h3
    refine wt_T_some ?_
    exact rfl
  · skip
    have c5 := wt_ncl h3
    have bb6 := wt_bd (wt_gf σ 34 4)
    refine wt_T_if (fun h7 => ?_) (fun h7 => ?_)
    · skip
      have c8 := wt_cle h7
      refine wt_T_some ?_
      exact rfl
    · skip
      have c9 := wt_ncle h7
      refine wt_T_some ?_
      exact rfl
set_option maxRecDepth 100000 in
set_option maxHeartbeats 4000000 in
theorem wq_tx_wordAt (n : Nat) (hn : 4294967297 < n) (x1 : Int32) (x2 : Int32) (σ : wt_St) : wt_T (wp_tx_wordAt n x1 x2 σ) (fun q => q.2 = σ) := by
  unfold wp_tx_wordAt
  have bb1 := wt_bd x2
  have k2 : (0 : Int32).toInt = 0 := by decide
  refine wt_T_if (fun h3 => ?_) (fun h3 => ?_)
  · skip
    have c4 := wt_clt h3
    refine wt_T_some ?_
    exact rfl
  · skip
    have c5 := wt_ncl h3
    refine wt_T_bi (wq_tx_lengthOf n hn x1 σ) (fun r6 h7 => ?_)
    obtain ⟨e8, e8v⟩ := h7
    have e9 := wt_ceq e8v
    have bb10 := wt_bd (wt_lk 36 x1 σ)
    have bb11 := wt_bd r6.1
    rw [e8]
    refine wt_T_if (fun h12 => ?_) (fun h12 => ?_)
    · skip
      have c13 := wt_cle h12
      refine wt_T_some ?_
      exact rfl
    · skip
      have c14 := wt_ncle h12
      refine wt_T_bi (wq_ap_look n hn 35 ((x1 * (12 : Int32)) + x2) σ) (fun r15 h16 => ?_)
      obtain ⟨e17, e17v⟩ := h16
      have e18 := wt_ceq e17v
      have bb19 := wt_bd (wt_lk 35 ((x1 * (12 : Int32)) + x2) σ)
      have bb20 := wt_bd r15.1
      rw [e17]
      refine wt_T_some ?_
      exact rfl
set_option maxRecDepth 100000 in
set_option maxHeartbeats 4000000 in
theorem wq_sk_lies (n : Nat) (hn : 4294967297 < n) (x1 : Int32) (σ : wt_St) : wt_T (wp_sk_lies n x1 σ) (fun q => q.2 = σ) := by
  unfold wp_sk_lies
  refine wt_T_bi (wq_ap_look n hn 41 x1 σ) (fun r1 h2 => ?_)
  obtain ⟨e3, e3v⟩ := h2
  have e4 := wt_ceq e3v
  have bb5 := wt_bd (wt_lk 41 x1 σ)
  have bb6 := wt_bd r1.1
  rw [e3]
  refine wt_T_if (fun h7 => ?_) (fun h7 => ?_)
  · skip
    have c8 := wt_ceq h7
    rw [wt_lm1] at c8
    refine wt_T_some ?_
    exact rfl
  · skip
    have c9 := wt_nceq h7
    rw [wt_lm1] at c9
    refine wt_T_some ?_
    exact rfl
set_option maxRecDepth 100000 in
set_option maxHeartbeats 4000000 in
theorem wq_sk_leftInCase (n : Nat) (hn : 4294967297 < n) (x1 : Int32) (σ : wt_St) : wt_T (wp_sk_leftInCase n x1 σ) (fun q => q.2 = σ) := by
  unfold wp_sk_leftInCase
  have k6 : (0 : Int32).toInt = 0 := by decide
  refine wt_T_it (fun s : Int32 × Int32 × wt_St => s.2.2 = σ ∧ 0 ≤ (s.2.1).toInt) (fun s : Int32 × Int32 × wt_St => ((wt_lk 5 x1 s.2.2).toInt - s.2.1.toInt + 0).toNat) (fun KK1 z2 I3 hKK1 => ?_) _ _ ?_ ?_
  · skip
    obtain ⟨l4, l5⟩ := I3
    unfold wp_sk_leftInCase_B4
    rw [l4]
    have bb7 := wt_bd (wt_lk 5 x1 σ)
    have bb8 := wt_bd z2.2.1
    refine wt_T_bi (wq_sk_pieces n hn x1 σ) (fun r9 h10 => ?_)
    obtain ⟨e11, e11v⟩ := h10
    have e12 := wt_ceq e11v
    have bb13 := wt_bd r9.1
    rw [e11]
    refine wt_T_if (fun h14 => ?_) (fun h14 => ?_)
    · skip
      have c15 := wt_cle h14
      refine wt_T_some ?_
      exact rfl
    · skip
      have c16 := wt_ncle h14
      refine wt_T_bi (wq_sk_lies n hn ((x1 * (12 : Int32)) + z2.2.1) σ) (fun r17 h18 => ?_)
      have e19 := h18
      rw [e19]
      have bb20 := wt_bd r17.1
      refine wt_T_if (fun h21 => ?_) (fun h21 => ?_)
      · skip
        have c22 := wt_ceq h21
        unfold wp_sk_leftInCase_B47
        refine hKK1 _ ⟨rfl, (wt_nn (B := wt_lk 5 x1 z2.2.2) (by omega) (by first | (rw [l4]; omega) | (rw [l4]; done) | omega))⟩ ?_
        show ((wt_lk 5 x1 σ).toInt - (z2.2.1 + (1 : Int32)).toInt + 0).toNat < ((wt_lk 5 x1 z2.2.2).toInt - z2.2.1.toInt + 0).toNat
        exact wt_mu (by first | (rw [l4]; omega) | (rw [l4]; done) | omega) (by first | (rw [l4]; omega) | (rw [l4]; done) | omega)
      · skip
        have c23 := wt_nceq h21
        refine wt_T_bi (wq_ap_look n hn 40 ((x1 * (12 : Int32)) + z2.2.1) σ) (fun r24 h25 => ?_)
        obtain ⟨e26, e26v⟩ := h25
        have e27 := wt_ceq e26v
        have bb28 := wt_bd (wt_lk 40 ((x1 * (12 : Int32)) + z2.2.1) σ)
        have bb29 := wt_bd r24.1
        rw [e26]
        unfold wp_sk_leftInCase_B47
        refine hKK1 _ ⟨rfl, (wt_nn (B := wt_lk 5 x1 z2.2.2) (by omega) (by first | (rw [l4]; omega) | (rw [l4]; done) | omega))⟩ ?_
        show ((wt_lk 5 x1 σ).toInt - (z2.2.1 + (1 : Int32)).toInt + 0).toNat < ((wt_lk 5 x1 z2.2.2).toInt - z2.2.1.toInt + 0).toNat
        exact wt_mu (by first | (rw [l4]; omega) | (rw [l4]; done) | omega) (by first | (rw [l4]; omega) | (rw [l4]; done) | omega)
  · skip
    have bb30 := wt_bd (wt_lk 5 x1 σ)
    exact ⟨rfl, (show 0 ≤ ((0 : Int32)).toInt by omega)⟩
  · skip
    have bb31 := wt_bd (wt_lk 5 x1 σ)
    show ((wt_lk 5 x1 σ).toInt - (0 : Int32).toInt + 0).toNat < n
    omega
set_option maxRecDepth 100000 in
set_option maxHeartbeats 4000000 in
theorem wq_tx_needOf (n : Nat) (hn : 4294967297 < n) (x1 : Int32) (x2 : Int32) (σ : wt_St) : wt_T (wp_tx_needOf n x1 x2 σ) (fun q => q.2 = σ) := by
  unfold wp_tx_needOf
  refine wt_T_bi (wq_ap_look n hn 37 ((x1 * (26 : Int32)) + x2) σ) (fun r1 h2 => ?_)
  obtain ⟨e3, e3v⟩ := h2
  have e4 := wt_ceq e3v
  have bb5 := wt_bd (wt_lk 37 ((x1 * (26 : Int32)) + x2) σ)
  have bb6 := wt_bd r1.1
  rw [e3]
  refine wt_T_some ?_
  exact rfl
set_option maxRecDepth 100000 in
set_option maxHeartbeats 4000000 in
theorem wq_wk_printsOf (n : Nat) (hn : 4294967297 < n) (x1 : Int32) (x2 : Int32) (σ : wt_St) : wt_T (wp_wk_printsOf n x1 x2 σ) (fun q => q.2 = σ) := by
  unfold wp_wk_printsOf
  refine wt_T_bi (wq_ap_look n hn 44 x1 σ) (fun r1 h2 => ?_)
  obtain ⟨e3, e3v⟩ := h2
  have e4 := wt_ceq e3v
  have bb5 := wt_bd (wt_lk 44 x1 σ)
  have bb6 := wt_bd r1.1
  rw [e3]
  refine wt_T_bi (wq_tx_needOf n hn r1.1 x2 σ) (fun r7 h8 => ?_)
  have e9 := h8
  rw [e9]
  refine wt_T_bi (wq_ap_look n hn 45 x1 σ) (fun r10 h11 => ?_)
  obtain ⟨e12, e12v⟩ := h11
  have e13 := wt_ceq e12v
  have bb14 := wt_bd (wt_lk 45 x1 σ)
  have bb15 := wt_bd r10.1
  rw [e12]
  refine wt_T_some ?_
  exact rfl
set_option maxRecDepth 100000 in
set_option maxHeartbeats 4000000 in
theorem wq_wk_dearestOf (n : Nat) (hn : 4294967297 < n) (x1 : Int32) (x2 : Int32) (σ : wt_St) : wt_T (wp_wk_dearestOf n x1 x2 σ) (fun q => q.2 = σ) := by
  unfold wp_wk_dearestOf
  have k6 : (0 : Int32).toInt = 0 := by decide
  refine wt_T_it (fun s : Int32 × Int32 × wt_St => s.2.2 = σ ∧ 0 ≤ (s.2.1).toInt) (fun s : Int32 × Int32 × wt_St => ((wt_gf s.2.2 39 8).toInt - s.2.1.toInt + 0).toNat) (fun KK1 z2 I3 hKK1 => ?_) _ _ ?_ ?_
  · skip
    obtain ⟨l4, l5⟩ := I3
    unfold wp_wk_dearestOf_B5
    rw [l4]
    have bb7 := wt_bd (wt_gf σ 39 8)
    have bb8 := wt_bd z2.2.1
    refine wt_T_if (fun h9 => ?_) (fun h9 => ?_)
    · skip
      have c10 := wt_cle h9
      refine wt_T_some ?_
      exact rfl
    · skip
      have c11 := wt_ncle h9
      have bb12 := wt_bd x2
      have k13 : (31 : Int32).toInt = 31 := by decide
      have bb14 := wt_bd (z2.2.1 &&& 31)
      have bb15 := wt_bd (x2 >>> (z2.2.1 &&& 31))
      have k16 : (1 : Int32).toInt = 1 := by decide
      have bb17 := wt_bd ((x2 >>> (z2.2.1 &&& 31)) &&& (1 : Int32))
      refine wt_T_if (fun h18 => ?_) (fun h18 => ?_)
      · skip
        have c19 := wt_ceq h18
        have bb20 := wt_bd z2.1
        refine wt_T_if (fun h21 => ?_) (fun h21 => ?_)
        · skip
          have c22 := wt_ceq h21
          rw [wt_lm1] at c22
          unfold wp_wk_dearestOf_B75
          unfold wp_wk_dearestOf_B78
          refine hKK1 _ ⟨rfl, (wt_nn (B := wt_gf z2.2.2 39 8) (by omega) (by first | (rw [l4]; omega) | (rw [l4]; done) | omega))⟩ ?_
          show ((wt_gf σ 39 8).toInt - (z2.2.1 + (1 : Int32)).toInt + 0).toNat < ((wt_gf z2.2.2 39 8).toInt - z2.2.1.toInt + 0).toNat
          exact wt_mu (by first | (rw [l4]; omega) | (rw [l4]; done) | omega) (by first | (rw [l4]; omega) | (rw [l4]; done) | omega)
        · skip
          have c23 := wt_nceq h21
          rw [wt_lm1] at c23
          refine wt_T_bi (wq_ap_look n hn 47 z2.2.1 σ) (fun r24 h25 => ?_)
          obtain ⟨e26, e26v⟩ := h25
          have e27 := wt_ceq e26v
          have bb28 := wt_bd (wt_lk 47 z2.2.1 σ)
          have bb29 := wt_bd r24.1
          rw [e26]
          refine wt_T_bi (wq_wk_printsOf n hn z2.1 x1 σ) (fun r30 h31 => ?_)
          have e32 := h31
          rw [e32]
          refine wt_T_bi (wq_ap_look n hn 47 z2.1 σ) (fun r33 h34 => ?_)
          obtain ⟨e35, e35v⟩ := h34
          have e36 := wt_ceq e35v
          have bb37 := wt_bd (wt_lk 47 z2.1 σ)
          have bb38 := wt_bd r33.1
          rw [e35]
          refine wt_T_bi (wq_wk_printsOf n hn z2.2.1 x1 σ) (fun r39 h40 => ?_)
          have e41 := h40
          rw [e41]
          have bb42 := wt_bd r30.1
          obtain ⟨j43, j43a, j43b⟩ := wt_mulI r24.1 r30.1
          have bb44 := wt_bd r39.1
          obtain ⟨j45, j45a, j45b⟩ := wt_mulI r33.1 r39.1
          refine wt_T_if (fun h46 => ?_) (fun h46 => ?_)
          · skip
            have c47 := wt_cle h46
            unfold wp_wk_dearestOf_B78
            refine hKK1 _ ⟨rfl, (wt_nn (B := wt_gf z2.2.2 39 8) (by omega) (by first | (rw [l4]; omega) | (rw [l4]; done) | omega))⟩ ?_
            show ((wt_gf σ 39 8).toInt - (z2.2.1 + (1 : Int32)).toInt + 0).toNat < ((wt_gf z2.2.2 39 8).toInt - z2.2.1.toInt + 0).toNat
            exact wt_mu (by first | (rw [l4]; omega) | (rw [l4]; done) | omega) (by first | (rw [l4]; omega) | (rw [l4]; done) | omega)
          · skip
            have c48 := wt_ncle h46
            unfold wp_wk_dearestOf_B75
            unfold wp_wk_dearestOf_B78
            refine hKK1 _ ⟨rfl, (wt_nn (B := wt_gf z2.2.2 39 8) (by omega) (by first | (rw [l4]; omega) | (rw [l4]; done) | omega))⟩ ?_
            show ((wt_gf σ 39 8).toInt - (z2.2.1 + (1 : Int32)).toInt + 0).toNat < ((wt_gf z2.2.2 39 8).toInt - z2.2.1.toInt + 0).toNat
            exact wt_mu (by first | (rw [l4]; omega) | (rw [l4]; done) | omega) (by first | (rw [l4]; omega) | (rw [l4]; done) | omega)
      · skip
        have c49 := wt_nceq h18
        unfold wp_wk_dearestOf_B78
        refine hKK1 _ ⟨rfl, (wt_nn (B := wt_gf z2.2.2 39 8) (by omega) (by first | (rw [l4]; omega) | (rw [l4]; done) | omega))⟩ ?_
        show ((wt_gf σ 39 8).toInt - (z2.2.1 + (1 : Int32)).toInt + 0).toNat < ((wt_gf z2.2.2 39 8).toInt - z2.2.1.toInt + 0).toNat
        exact wt_mu (by first | (rw [l4]; omega) | (rw [l4]; done) | omega) (by first | (rw [l4]; omega) | (rw [l4]; done) | omega)
  · skip
    have bb50 := wt_bd (wt_gf σ 39 8)
    exact ⟨rfl, (show 0 ≤ ((0 : Int32)).toInt by omega)⟩
  · skip
    have bb51 := wt_bd (wt_gf σ 39 8)
    show ((wt_gf σ 39 8).toInt - (0 : Int32).toInt + 0).toNat < n
    omega
set_option maxRecDepth 100000 in
set_option maxHeartbeats 4000000 in
theorem wq_wk_boundBy (n : Nat) (hn : 4294967297 < n) (x1 : Int32) (σ : wt_St) : wt_T (wp_wk_boundBy n x1 σ) (fun q => q.2 = σ) := by
  unfold wp_wk_boundBy
  refine wt_T_bi (wq_sk_leftInCase n hn x1 σ) (fun r1 h2 => ?_)
  have e3 := h2
  rw [e3]
  have k9 : (0 : Int32).toInt = 0 := by decide
  refine wt_T_it (fun s : Int32 × Int32 × Int32 × Int32 × wt_St => s.2.2.2.2 = σ ∧ 0 ≤ (s.2.2.2.1).toInt) (fun s : Int32 × Int32 × Int32 × Int32 × wt_St => ((wt_gf s.2.2.2.2 39 8).toInt - s.2.2.2.1.toInt + 0).toNat) (fun KK4 z5 I6 hKK4 => ?_) _ _ ?_ ?_
  · skip
    obtain ⟨l7, l8⟩ := I6
    unfold wp_wk_boundBy_B17
    rw [l7]
    have bb10 := wt_bd (wt_gf σ 39 8)
    have bb11 := wt_bd z5.2.2.2.1
    refine wt_T_if (fun h12 => ?_) (fun h12 => ?_)
    · skip
      have c13 := wt_cle h12
      refine wt_T_some ?_
      exact rfl
    · skip
      have c14 := wt_ncle h12
      refine wt_T_bi (wq_wk_dearestOf n hn x1 z5.2.2.1 σ) (fun r15 h16 => ?_)
      have e17 := h16
      rw [e17]
      have bb18 := wt_bd r15.1
      refine wt_T_if (fun h19 => ?_) (fun h19 => ?_)
      · skip
        have c20 := wt_ceq h19
        rw [wt_lm1] at c20
        refine wt_T_some ?_
        exact rfl
      · skip
        have c21 := wt_nceq h19
        rw [wt_lm1] at c21
        refine wt_T_bi (wq_wk_printsOf n hn r15.1 x1 σ) (fun r22 h23 => ?_)
        have e24 := h23
        rw [e24]
        refine wt_T_bi (wq_ap_look n hn 47 r15.1 σ) (fun r25 h26 => ?_)
        obtain ⟨e27, e27v⟩ := h26
        have e28 := wt_ceq e27v
        have bb29 := wt_bd (wt_lk 47 r15.1 σ)
        have bb30 := wt_bd r25.1
        rw [e27]
        have bb31 := wt_bd r22.1
        have bb32 := wt_bd z5.1
        refine wt_T_if (fun h33 => ?_) (fun h33 => ?_)
        · skip
          have c34 := wt_cle h33
          unfold wp_wk_boundBy_B99
          refine hKK4 _ ⟨rfl, (wt_nn (B := wt_gf z5.2.2.2.2 39 8) (by omega) (by first | (rw [l7]; omega) | (rw [l7]; done) | omega))⟩ ?_
          show ((wt_gf σ 39 8).toInt - (z5.2.2.2.1 + (1 : Int32)).toInt + 0).toNat < ((wt_gf z5.2.2.2.2 39 8).toInt - z5.2.2.2.1.toInt + 0).toNat
          exact wt_mu (by first | (rw [l7]; omega) | (rw [l7]; done) | omega) (by first | (rw [l7]; omega) | (rw [l7]; done) | omega)
        · skip
          have c35 := wt_ncle h33
          refine wt_T_if (fun h36 => ?_) (fun h36 => ?_)
          · skip
            have c37 := wt_cle h36
            unfold wp_wk_boundBy_B99
            refine hKK4 _ ⟨rfl, (wt_nn (B := wt_gf z5.2.2.2.2 39 8) (by omega) (by first | (rw [l7]; omega) | (rw [l7]; done) | omega))⟩ ?_
            show ((wt_gf σ 39 8).toInt - (z5.2.2.2.1 + (1 : Int32)).toInt + 0).toNat < ((wt_gf z5.2.2.2.2 39 8).toInt - z5.2.2.2.1.toInt + 0).toNat
            exact wt_mu (by first | (rw [l7]; omega) | (rw [l7]; done) | omega) (by first | (rw [l7]; omega) | (rw [l7]; done) | omega)
          · skip
            have c38 := wt_ncle h36
            refine wt_T_gd (fun h39 => by have := wt_ceq h39; omega) ?_
            refine wt_T_some ?_
            exact rfl
  · skip
    have bb40 := wt_bd (wt_gf σ 39 8)
    exact ⟨rfl, (show 0 ≤ ((0 : Int32)).toInt by omega)⟩
  · skip
    have bb41 := wt_bd (wt_gf σ 39 8)
    show ((wt_gf σ 39 8).toInt - (0 : Int32).toInt + 0).toNat < n
    omega
set_option maxRecDepth 100000 in
set_option maxHeartbeats 4000000 in
theorem wq_wk_leastBound (n : Nat) (hn : 4294967297 < n) (σ : wt_St) : wt_T (wp_wk_leastBound n σ) (fun q => q.2 = σ) := by
  unfold wp_wk_leastBound
  refine wt_T_bi (wq_wk_boundBy n hn (0 : Int32) σ) (fun r1 h2 => ?_)
  have e3 := h2
  rw [e3]
  have k9 : (1 : Int32).toInt = 1 := by decide
  refine wt_T_it (fun s : Int32 × Int32 × wt_St => s.2.2 = σ ∧ 0 ≤ (s.2.1).toInt) (fun s : Int32 × Int32 × wt_St => ((26 : Int32).toInt - s.2.1.toInt + 0).toNat) (fun KK4 z5 I6 hKK4 => ?_) _ _ ?_ ?_
  · skip
    obtain ⟨l7, l8⟩ := I6
    unfold wp_wk_leastBound_B8
    rw [l7]
    have k10 : (26 : Int32).toInt = 26 := by decide
    have bb11 := wt_bd z5.2.1
    refine wt_T_if (fun h12 => ?_) (fun h12 => ?_)
    · skip
      have c13 := wt_cle h12
      refine wt_T_some ?_
      exact rfl
    · skip
      have c14 := wt_ncle h12
      refine wt_T_bi (wq_wk_boundBy n hn z5.2.1 σ) (fun r15 h16 => ?_)
      have e17 := h16
      rw [e17]
      refine hKK4 _ ⟨rfl, (wt_nn (B := (26 : Int32)) (by omega) (by first | (rw [l7]; omega) | (rw [l7]; done) | omega))⟩ ?_
      show ((26 : Int32).toInt - (z5.2.1 + (1 : Int32)).toInt + 0).toNat < ((26 : Int32).toInt - z5.2.1.toInt + 0).toNat
      exact wt_mu (by first | (rw [l7]; omega) | (rw [l7]; done) | omega) (by first | (rw [l7]; omega) | (rw [l7]; done) | omega)
  · skip
    have k18 : (26 : Int32).toInt = 26 := by decide
    exact ⟨rfl, (show 0 ≤ ((1 : Int32)).toInt by omega)⟩
  · skip
    have k19 : (26 : Int32).toInt = 26 := by decide
    show ((26 : Int32).toInt - (1 : Int32).toInt + 0).toNat < n
    omega
set_option maxRecDepth 100000 in
set_option maxHeartbeats 4000000 in
theorem wq_ap_bound (n : Nat) (hn : 4294967297 < n) (σ : wt_St) : wt_T (wp_ap_bound n σ) (fun q => q.2 = σ) := by
  unfold wp_ap_bound
  refine wt_T_bi (wq_wk_leastBound n hn σ) (fun r1 h2 => ?_)
  have e3 := h2
  rw [e3]
  refine wt_T_some ?_
  exact rfl
set_option maxRecDepth 100000 in
set_option maxHeartbeats 4000000 in
theorem wq_sk_ready (n : Nat) (hn : 4294967297 < n) (a3 : Nat) (x1 : Int32) (x2 : Int32) (σ : wt_St) : wt_T (wp_sk_ready n a3 x1 x2 σ) (fun q => q.2 = σ) := by
  unfold wp_sk_ready
  have k6 : (0 : Int32).toInt = 0 := by decide
  refine wt_T_it (fun s : Int32 × Int32 × wt_St => s.2.2 = σ ∧ 0 ≤ (s.2.1).toInt) (fun s : Int32 × Int32 × wt_St => ((wt_lk 5 x1 s.2.2).toInt - s.2.1.toInt + 0).toNat) (fun KK1 z2 I3 hKK1 => ?_) _ _ ?_ ?_
  · skip
    obtain ⟨l4, l5⟩ := I3
    unfold wp_sk_ready_B6
    rw [l4]
    have bb7 := wt_bd (wt_lk 5 x1 σ)
    have bb8 := wt_bd z2.2.1
    refine wt_T_bi (wq_sk_pieces n hn x1 σ) (fun r9 h10 => ?_)
    obtain ⟨e11, e11v⟩ := h10
    have e12 := wt_ceq e11v
    have bb13 := wt_bd r9.1
    rw [e11]
    refine wt_T_if (fun h14 => ?_) (fun h14 => ?_)
    · skip
      have c15 := wt_cle h14
      refine wt_T_some ?_
      exact rfl
    · skip
      have c16 := wt_ncle h14
      refine wt_T_bi (wq_sk_lies n hn ((x1 * (12 : Int32)) + z2.2.1) σ) (fun r17 h18 => ?_)
      have e19 := h18
      rw [e19]
      have bb20 := wt_bd r17.1
      refine wt_T_if (fun h21 => ?_) (fun h21 => ?_)
      · skip
        have c22 := wt_ceq h21
        unfold wp_sk_ready_B50
        unfold wp_sk_ready_B51
        refine hKK1 _ ⟨rfl, (wt_nn (B := wt_lk 5 x1 z2.2.2) (by omega) (by first | (rw [l4]; omega) | (rw [l4]; done) | omega))⟩ ?_
        show ((wt_lk 5 x1 σ).toInt - (z2.2.1 + (1 : Int32)).toInt + 0).toNat < ((wt_lk 5 x1 z2.2.2).toInt - z2.2.1.toInt + 0).toNat
        exact wt_mu (by first | (rw [l4]; omega) | (rw [l4]; done) | omega) (by first | (rw [l4]; omega) | (rw [l4]; done) | omega)
      · skip
        have c23 := wt_nceq h21
        refine wt_T_bi (wq_ap_look n hn a3 ((x1 * (12 : Int32)) + z2.2.1) σ) (fun r24 h25 => ?_)
        obtain ⟨e26, e26v⟩ := h25
        have e27 := wt_ceq e26v
        have bb28 := wt_bd (wt_lk a3 ((x1 * (12 : Int32)) + z2.2.1) σ)
        have bb29 := wt_bd r24.1
        rw [e26]
        have bb30 := wt_bd x2
        refine wt_T_if (fun h31 => ?_) (fun h31 => ?_)
        · skip
          have c32 := wt_clt h31
          unfold wp_sk_ready_B50
          unfold wp_sk_ready_B51
          refine hKK1 _ ⟨rfl, (wt_nn (B := wt_lk 5 x1 z2.2.2) (by omega) (by first | (rw [l4]; omega) | (rw [l4]; done) | omega))⟩ ?_
          show ((wt_lk 5 x1 σ).toInt - (z2.2.1 + (1 : Int32)).toInt + 0).toNat < ((wt_lk 5 x1 z2.2.2).toInt - z2.2.1.toInt + 0).toNat
          exact wt_mu (by first | (rw [l4]; omega) | (rw [l4]; done) | omega) (by first | (rw [l4]; omega) | (rw [l4]; done) | omega)
        · skip
          have c33 := wt_ncl h31
          unfold wp_sk_ready_B51
          refine hKK1 _ ⟨rfl, (wt_nn (B := wt_lk 5 x1 z2.2.2) (by omega) (by first | (rw [l4]; omega) | (rw [l4]; done) | omega))⟩ ?_
          show ((wt_lk 5 x1 σ).toInt - (z2.2.1 + (1 : Int32)).toInt + 0).toNat < ((wt_lk 5 x1 z2.2.2).toInt - z2.2.1.toInt + 0).toNat
          exact wt_mu (by first | (rw [l4]; omega) | (rw [l4]; done) | omega) (by first | (rw [l4]; omega) | (rw [l4]; done) | omega)
  · skip
    have bb34 := wt_bd (wt_lk 5 x1 σ)
    exact ⟨rfl, (show 0 ≤ ((0 : Int32)).toInt by omega)⟩
  · skip
    have bb35 := wt_bd (wt_lk 5 x1 σ)
    show ((wt_lk 5 x1 σ).toInt - (0 : Int32).toInt + 0).toNat < n
    omega
set_option maxRecDepth 100000 in
set_option maxHeartbeats 4000000 in
theorem wq_sk_reach (n : Nat) (hn : 4294967297 < n) (a3 : Nat) (x1 : Int32) (x2 : Int32) (σ : wt_St) : wt_T (wp_sk_reach n a3 x1 x2 σ) (fun q => q.2 = σ) := by
  unfold wp_sk_reach
  have k1 : (0 : Int32).toInt = 0 := by decide
  have bb2 := wt_bd x2
  refine wt_T_if (fun h3 => ?_) (fun h3 => ?_)
  · skip
    have c4 := wt_clt h3
    refine wt_T_it (fun s : Int32 × Int32 × wt_St => s.2.2 = σ ∧ 0 ≤ (s.2.1).toInt) (fun s : Int32 × Int32 × wt_St => ((wt_lk 5 x1 s.2.2).toInt - s.2.1.toInt + 0).toNat) (fun KK5 z6 I7 hKK5 => ?_) _ _ ?_ ?_
    · skip
      obtain ⟨l8, l9⟩ := I7
      unfold wp_sk_reach_B13
      rw [l8]
      have bb10 := wt_bd (wt_lk 5 x1 σ)
      have bb11 := wt_bd z6.2.1
      refine wt_T_bi (wq_sk_pieces n hn x1 σ) (fun r12 h13 => ?_)
      obtain ⟨e14, e14v⟩ := h13
      have e15 := wt_ceq e14v
      have bb16 := wt_bd r12.1
      rw [e14]
      refine wt_T_if (fun h17 => ?_) (fun h17 => ?_)
      · skip
        have c18 := wt_cle h17
        refine wt_T_some ?_
        exact rfl
      · skip
        have c19 := wt_ncle h17
        refine wt_T_bi (wq_ap_look n hn a3 ((x1 * (12 : Int32)) + z6.2.1) σ) (fun r20 h21 => ?_)
        obtain ⟨e22, e22v⟩ := h21
        have e23 := wt_ceq e22v
        have bb24 := wt_bd (wt_lk a3 ((x1 * (12 : Int32)) + z6.2.1) σ)
        have bb25 := wt_bd r20.1
        rw [e22]
        refine wt_T_bi (wq_sk_lies n hn ((x1 * (12 : Int32)) + z6.2.1) σ) (fun r26 h27 => ?_)
        have e28 := h27
        rw [e28]
        have bb29 := wt_bd r26.1
        refine wt_T_if (fun h30 => ?_) (fun h30 => ?_)
        · skip
          have c31 := wt_ceq h30
          unfold wp_sk_reach_B72
          refine hKK5 _ ⟨rfl, (wt_nn (B := wt_lk 5 x1 z6.2.2) (by omega) (by first | (rw [l8]; omega) | (rw [l8]; done) | omega))⟩ ?_
          show ((wt_lk 5 x1 σ).toInt - (z6.2.1 + (1 : Int32)).toInt + 0).toNat < ((wt_lk 5 x1 z6.2.2).toInt - z6.2.1.toInt + 0).toNat
          exact wt_mu (by first | (rw [l8]; omega) | (rw [l8]; done) | omega) (by first | (rw [l8]; omega) | (rw [l8]; done) | omega)
        · skip
          have c32 := wt_nceq h30
          have bb33 := wt_bd z6.1
          refine wt_T_if (fun h34 => ?_) (fun h34 => ?_)
          · skip
            have c35 := wt_cle h34
            unfold wp_sk_reach_B72
            refine hKK5 _ ⟨rfl, (wt_nn (B := wt_lk 5 x1 z6.2.2) (by omega) (by first | (rw [l8]; omega) | (rw [l8]; done) | omega))⟩ ?_
            show ((wt_lk 5 x1 σ).toInt - (z6.2.1 + (1 : Int32)).toInt + 0).toNat < ((wt_lk 5 x1 z6.2.2).toInt - z6.2.1.toInt + 0).toNat
            exact wt_mu (by first | (rw [l8]; omega) | (rw [l8]; done) | omega) (by first | (rw [l8]; omega) | (rw [l8]; done) | omega)
          · skip
            have c36 := wt_ncle h34
            refine wt_T_bi (wq_sk_ready n hn a3 x1 r20.1 σ) (fun r37 h38 => ?_)
            have e39 := h38
            rw [e39]
            have bb40 := wt_bd r37.1
            refine wt_T_if (fun h41 => ?_) (fun h41 => ?_)
            · skip
              have c42 := wt_clt h41
              unfold wp_sk_reach_B72
              refine hKK5 _ ⟨rfl, (wt_nn (B := wt_lk 5 x1 z6.2.2) (by omega) (by first | (rw [l8]; omega) | (rw [l8]; done) | omega))⟩ ?_
              show ((wt_lk 5 x1 σ).toInt - (z6.2.1 + (1 : Int32)).toInt + 0).toNat < ((wt_lk 5 x1 z6.2.2).toInt - z6.2.1.toInt + 0).toNat
              exact wt_mu (by first | (rw [l8]; omega) | (rw [l8]; done) | omega) (by first | (rw [l8]; omega) | (rw [l8]; done) | omega)
            · skip
              have c43 := wt_ncl h41
              unfold wp_sk_reach_B72
              refine hKK5 _ ⟨rfl, (wt_nn (B := wt_lk 5 x1 z6.2.2) (by omega) (by first | (rw [l8]; omega) | (rw [l8]; done) | omega))⟩ ?_
              show ((wt_lk 5 x1 σ).toInt - (z6.2.1 + (1 : Int32)).toInt + 0).toNat < ((wt_lk 5 x1 z6.2.2).toInt - z6.2.1.toInt + 0).toNat
              exact wt_mu (by first | (rw [l8]; omega) | (rw [l8]; done) | omega) (by first | (rw [l8]; omega) | (rw [l8]; done) | omega)
    · skip
      have bb44 := wt_bd (wt_lk 5 x1 σ)
      exact ⟨rfl, (show 0 ≤ ((0 : Int32)).toInt by omega)⟩
    · skip
      have bb45 := wt_bd (wt_lk 5 x1 σ)
      show ((wt_lk 5 x1 σ).toInt - (0 : Int32).toInt + 0).toNat < n
      omega
  · skip
    have c46 := wt_ncl h3
    refine wt_T_some ?_
    exact rfl
set_option maxRecDepth 100000 in
set_option maxHeartbeats 4000000 in
theorem wq_sk_often (n : Nat) (hn : 4294967297 < n) (a1 : Nat) (a2 : Nat) (σ : wt_St) : wt_T (wp_sk_often n a1 a2 σ) (fun q => q.2 = σ) := by
  unfold wp_sk_often
  have k6 : (0 : Int32).toInt = 0 := by decide
  refine wt_T_it (fun s : Int32 × Int32 × wt_St => s.2.2 = σ ∧ 0 ≤ (s.2.1).toInt) (fun s : Int32 × Int32 × wt_St => ((nI (wt_ln a1)).toInt - s.2.1.toInt + 0).toNat) (fun KK1 z2 I3 hKK1 => ?_) _ _ ?_ ?_
  · skip
    obtain ⟨l4, l5⟩ := I3
    unfold wp_sk_often_B6
    rw [l4]
    have bb7 := wt_lnI a1
    have bb8 := wt_bd z2.2.1
    refine wt_T_if (fun h9 => ?_) (fun h9 => ?_)
    · skip
      have c10 := wt_cle h9
      refine wt_T_some ?_
      exact rfl
    · skip
      have c11 := wt_ncle h9
      have bb12 := wt_ln_bd a1
      refine wt_T_gd (wt_ix (by omega) (by omega)) ?_
      refine wt_T_bi (wq_sk_reach n hn a2 z2.2.1 (wt_ga σ a1 (Int32.toNatClampNeg z2.2.1)) σ) (fun r13 h14 => ?_)
      have e15 := h14
      rw [e15]
      refine hKK1 _ ⟨rfl, (wt_nn (B := nI (wt_ln a1)) (by omega) (by first | (rw [l4]; omega) | (rw [l4]; done) | omega))⟩ ?_
      show ((nI (wt_ln a1)).toInt - (z2.2.1 + (1 : Int32)).toInt + 0).toNat < ((nI (wt_ln a1)).toInt - z2.2.1.toInt + 0).toNat
      exact wt_mu (by first | (rw [l4]; omega) | (rw [l4]; done) | omega) (by first | (rw [l4]; omega) | (rw [l4]; done) | omega)
  · skip
    have bb16 := wt_lnI a1
    exact ⟨rfl, (show 0 ≤ ((0 : Int32)).toInt by omega)⟩
  · skip
    have bb17 := wt_lnI a1
    show ((nI (wt_ln a1)).toInt - (0 : Int32).toInt + 0).toNat < n
    omega
set_option maxRecDepth 100000 in
set_option maxHeartbeats 4000000 in
theorem wq_tx_spell (n : Nat) (hn : 4294967297 < n) (a2 : Nat) (x1 : Int32) (σ : wt_St) : wt_T (wp_tx_spell n a2 x1 σ) (fun q => wt_fr (fun i k => False) (fun i => i = a2) σ q) := by
  unfold wp_tx_spell
  have k6 : (0 : Int32).toInt = 0 := by decide
  refine wt_T_it (fun s : Int32 × wt_St => wt_fr (fun i k => False) (fun i => i = a2) σ s.2 ∧ 0 ≤ (s.1).toInt) (fun s : Int32 × wt_St => ((nI (wt_ln a2)).toInt - s.1.toInt + 0).toNat) (fun KK1 z2 I3 hKK1 => ?_) _ _ ?_ ?_
  · skip
    obtain ⟨l4, l5⟩ := I3
    unfold wp_tx_spell_B2
    have bb7 := wt_lnI a2
    have bb8 := wt_bd z2.1
    refine wt_T_if (fun h9 => ?_) (fun h9 => ?_)
    · skip
      have c10 := wt_cle h9
      refine wt_T_some ?_
      exact (wt_fr.tr wt_fr.rf l4 (fun i k h => h.elim) (fun i h => by (try dsimp only at h); exact (by first | exact h | omega)))
    · skip
      have c11 := wt_ncle h9
      refine wt_T_bi (wq_tx_needOf n hn x1 z2.1 z2.2) (fun r12 h13 => ?_)
      have e14 := h13
      rw [e14]
      have bb15 := wt_ln_bd a2
      refine wt_T_gd (wt_ix (by omega) (by omega)) ?_
      obtain ⟨σ16, eσ16⟩ : ∃ z : wt_St, z = wt_sa z2.2 a2 (Int32.toNatClampNeg z2.1) r12.1 := ⟨_, rfl⟩
      rw [← eσ16]
      have fσ16 := wt_fr_sa eσ16
      have vσ16 := wt_ceq (wt_v_sa eσ16)
      refine hKK1 _ ⟨(wt_fr.tr (wt_fr.tr wt_fr.rf l4 (fun i k h => h.elim) (fun i h => by (try dsimp only at h); exact (by first | exact h | omega))) fσ16 (fun i k h => h.elim) (fun i h => by (try dsimp only at h); exact (by first | exact h | omega))), (wt_nn (B := nI (wt_ln a2)) (by omega) (by omega))⟩ ?_
      show ((nI (wt_ln a2)).toInt - (z2.1 + (1 : Int32)).toInt + 0).toNat < ((nI (wt_ln a2)).toInt - z2.1.toInt + 0).toNat
      exact wt_mu (by omega) (by omega)
  · skip
    have bb17 := wt_lnI a2
    exact ⟨wt_fr.rf, (show 0 ≤ ((0 : Int32)).toInt by omega)⟩
  · skip
    have bb18 := wt_lnI a2
    show ((nI (wt_ln a2)).toInt - (0 : Int32).toInt + 0).toNat < n
    omega
set_option maxRecDepth 100000 in
set_option maxHeartbeats 4000000 in
theorem wq_tr_leastOf (n : Nat) (hn : 4294967297 < n) (x1 : Int32) (x2 : Int32) (σ : wt_St) : wt_T (wp_tr_leastOf n x1 x2 σ) (fun q => q.2 = σ) := by
  unfold wp_tr_leastOf
  have k6 : (0 : Int32).toInt = 0 := by decide
  refine wt_T_it (fun s : Int32 × Int32 × wt_St => s.2.2 = σ ∧ 0 ≤ (s.2.1).toInt) (fun s : Int32 × Int32 × wt_St => ((26 : Int32).toInt - s.2.1.toInt + 0).toNat) (fun KK1 z2 I3 hKK1 => ?_) _ _ ?_ ?_
  · skip
    obtain ⟨l4, l5⟩ := I3
    unfold wp_tr_leastOf_B6
    rw [l4]
    have k7 : (26 : Int32).toInt = 26 := by decide
    have bb8 := wt_bd z2.2.1
    refine wt_T_if (fun h9 => ?_) (fun h9 => ?_)
    · skip
      have c10 := wt_cle h9
      refine wt_T_some ?_
      exact rfl
    · skip
      have c11 := wt_ncle h9
      have bb12 := wt_bd x2
      refine wt_T_if (fun h13 => ?_) (fun h13 => ?_)
      · skip
        have c14 := wt_ceq h13
        unfold wp_tr_leastOf_B30
        refine wt_T_bi (wq_ap_look n hn 104 z2.2.1 σ) (fun r15 h16 => ?_)
        obtain ⟨e17, e17v⟩ := h16
        have e18 := wt_ceq e17v
        have bb19 := wt_bd (wt_lk 104 z2.2.1 σ)
        have bb20 := wt_bd r15.1
        rw [e17]
        have bb21 := wt_bd x1
        refine wt_T_if (fun h22 => ?_) (fun h22 => ?_)
        · skip
          have c23 := wt_ceq h22
          refine wt_T_if (fun h24 => ?_) (fun h24 => ?_)
          · skip
            have c25 := wt_ceq h24
            unfold wp_tr_leastOf_B60
            refine wt_T_bi (wq_ap_look n hn 105 z2.2.1 σ) (fun r26 h27 => ?_)
            obtain ⟨e28, e28v⟩ := h27
            have e29 := wt_ceq e28v
            have bb30 := wt_bd (wt_lk 105 z2.2.1 σ)
            have bb31 := wt_bd r26.1
            rw [e28]
            unfold wp_tr_leastOf_B67
            refine hKK1 _ ⟨rfl, (wt_nn (B := (26 : Int32)) (by omega) (by first | (rw [l4]; omega) | (rw [l4]; done) | omega))⟩ ?_
            show ((26 : Int32).toInt - (z2.2.1 + (1 : Int32)).toInt + 0).toNat < ((26 : Int32).toInt - z2.2.1.toInt + 0).toNat
            exact wt_mu (by first | (rw [l4]; omega) | (rw [l4]; done) | omega) (by first | (rw [l4]; omega) | (rw [l4]; done) | omega)
          · skip
            have c32 := wt_nceq h24
            unfold wp_tr_leastOf_B60
            refine wt_T_bi (wq_ap_look n hn 103 z2.2.1 σ) (fun r33 h34 => ?_)
            obtain ⟨e35, e35v⟩ := h34
            have e36 := wt_ceq e35v
            have bb37 := wt_bd (wt_lk 103 z2.2.1 σ)
            have bb38 := wt_bd r33.1
            rw [e35]
            unfold wp_tr_leastOf_B67
            refine hKK1 _ ⟨rfl, (wt_nn (B := (26 : Int32)) (by omega) (by first | (rw [l4]; omega) | (rw [l4]; done) | omega))⟩ ?_
            show ((26 : Int32).toInt - (z2.2.1 + (1 : Int32)).toInt + 0).toNat < ((26 : Int32).toInt - z2.2.1.toInt + 0).toNat
            exact wt_mu (by first | (rw [l4]; omega) | (rw [l4]; done) | omega) (by first | (rw [l4]; omega) | (rw [l4]; done) | omega)
        · skip
          have c39 := wt_nceq h22
          unfold wp_tr_leastOf_B67
          refine hKK1 _ ⟨rfl, (wt_nn (B := (26 : Int32)) (by omega) (by first | (rw [l4]; omega) | (rw [l4]; done) | omega))⟩ ?_
          show ((26 : Int32).toInt - (z2.2.1 + (1 : Int32)).toInt + 0).toNat < ((26 : Int32).toInt - z2.2.1.toInt + 0).toNat
          exact wt_mu (by first | (rw [l4]; omega) | (rw [l4]; done) | omega) (by first | (rw [l4]; omega) | (rw [l4]; done) | omega)
      · skip
        have c40 := wt_nceq h13
        unfold wp_tr_leastOf_B30
        refine wt_T_bi (wq_ap_look n hn 102 z2.2.1 σ) (fun r41 h42 => ?_)
        obtain ⟨e43, e43v⟩ := h42
        have e44 := wt_ceq e43v
        have bb45 := wt_bd (wt_lk 102 z2.2.1 σ)
        have bb46 := wt_bd r41.1
        rw [e43]
        have bb47 := wt_bd x1
        refine wt_T_if (fun h48 => ?_) (fun h48 => ?_)
        · skip
          have c49 := wt_ceq h48
          refine wt_T_if (fun h50 => ?_) (fun h50 => ?_)
          · skip
            have c51 := wt_ceq h50
            unfold wp_tr_leastOf_B60
            refine wt_T_bi (wq_ap_look n hn 105 z2.2.1 σ) (fun r52 h53 => ?_)
            obtain ⟨e54, e54v⟩ := h53
            have e55 := wt_ceq e54v
            have bb56 := wt_bd (wt_lk 105 z2.2.1 σ)
            have bb57 := wt_bd r52.1
            rw [e54]
            unfold wp_tr_leastOf_B67
            refine hKK1 _ ⟨rfl, (wt_nn (B := (26 : Int32)) (by omega) (by first | (rw [l4]; omega) | (rw [l4]; done) | omega))⟩ ?_
            show ((26 : Int32).toInt - (z2.2.1 + (1 : Int32)).toInt + 0).toNat < ((26 : Int32).toInt - z2.2.1.toInt + 0).toNat
            exact wt_mu (by first | (rw [l4]; omega) | (rw [l4]; done) | omega) (by first | (rw [l4]; omega) | (rw [l4]; done) | omega)
          · skip
            have c58 := wt_nceq h50
            unfold wp_tr_leastOf_B60
            refine wt_T_bi (wq_ap_look n hn 103 z2.2.1 σ) (fun r59 h60 => ?_)
            obtain ⟨e61, e61v⟩ := h60
            have e62 := wt_ceq e61v
            have bb63 := wt_bd (wt_lk 103 z2.2.1 σ)
            have bb64 := wt_bd r59.1
            rw [e61]
            unfold wp_tr_leastOf_B67
            refine hKK1 _ ⟨rfl, (wt_nn (B := (26 : Int32)) (by omega) (by first | (rw [l4]; omega) | (rw [l4]; done) | omega))⟩ ?_
            show ((26 : Int32).toInt - (z2.2.1 + (1 : Int32)).toInt + 0).toNat < ((26 : Int32).toInt - z2.2.1.toInt + 0).toNat
            exact wt_mu (by first | (rw [l4]; omega) | (rw [l4]; done) | omega) (by first | (rw [l4]; omega) | (rw [l4]; done) | omega)
        · skip
          have c65 := wt_nceq h48
          unfold wp_tr_leastOf_B67
          refine hKK1 _ ⟨rfl, (wt_nn (B := (26 : Int32)) (by omega) (by first | (rw [l4]; omega) | (rw [l4]; done) | omega))⟩ ?_
          show ((26 : Int32).toInt - (z2.2.1 + (1 : Int32)).toInt + 0).toNat < ((26 : Int32).toInt - z2.2.1.toInt + 0).toNat
          exact wt_mu (by first | (rw [l4]; omega) | (rw [l4]; done) | omega) (by first | (rw [l4]; omega) | (rw [l4]; done) | omega)
  · skip
    have k66 : (26 : Int32).toInt = 26 := by decide
    exact ⟨rfl, (show 0 ≤ ((0 : Int32)).toInt by omega)⟩
  · skip
    have k67 : (26 : Int32).toInt = 26 := by decide
    show ((26 : Int32).toInt - (0 : Int32).toInt + 0).toNat < n
    omega
set_option maxRecDepth 100000 in
set_option maxHeartbeats 4000000 in
theorem wq_tr_joined (n : Nat) (hn : 4294967297 < n) (x0 : Int32) (x1 : Int32) (x2 : Int32) (σ : wt_St) : wt_T (wp_tr_joined n x0 x1 x2 σ) (fun q => q.2 = σ) := by
  unfold wp_tr_joined
  refine wt_T_some ?_
  exact rfl
set_option maxRecDepth 100000 in
set_option maxHeartbeats 4000000 in
theorem wq_sk_inCase (n : Nat) (hn : 4294967297 < n) (x1 : Int32) (σ : wt_St) : wt_T (wp_sk_inCase n x1 σ) (fun q => q.2 = σ) := by
  unfold wp_sk_inCase
  refine wt_T_bi (wq_sk_ready n hn 40 x1 (0 : Int32) σ) (fun r1 h2 => ?_)
  have e3 := h2
  rw [e3]
  refine wt_T_some ?_
  exact rfl
set_option maxRecDepth 100000 in
set_option maxHeartbeats 4000000 in
theorem wq_tr_reachWithoutLeast (n : Nat) (hn : 4294967297 < n) (x1 : Int32) (x2 : Int32) (σ : wt_St) : wt_T (wp_tr_reachWithoutLeast n x1 x2 σ) (fun q => q.2 = σ) := by
  unfold wp_tr_reachWithoutLeast
  have bb1 := wt_bd x2
  have k2 : (0 : Int32).toInt = 0 := by decide
  refine wt_T_if (fun h3 => ?_) (fun h3 => ?_)
  · skip
    have c4 := wt_cle h3
    unfold wp_tr_reachWithoutLeast_B20
    refine wt_T_bi (wq_sk_reach n hn 40 x1 x2 σ) (fun r5 h6 => ?_)
    have e7 := h6
    rw [e7]
    refine wt_T_some ?_
    exact rfl
  · skip
    have c8 := wt_ncle h3
    refine wt_T_bi (wq_sk_inCase n hn x1 σ) (fun r9 h10 => ?_)
    have e11 := h10
    rw [e11]
    have bb12 := wt_bd r9.1
    refine wt_T_if (fun h13 => ?_) (fun h13 => ?_)
    · skip
      have c14 := wt_clt h13
      unfold wp_tr_reachWithoutLeast_B20
      refine wt_T_bi (wq_sk_reach n hn 40 x1 x2 σ) (fun r15 h16 => ?_)
      have e17 := h16
      rw [e17]
      refine wt_T_some ?_
      exact rfl
    · skip
      have c18 := wt_ncl h13
      refine wt_T_some ?_
      exact rfl
set_option maxRecDepth 100000 in
set_option maxHeartbeats 4000000 in
theorem wq_tr_weigh (n : Nat) (hn : 4294967297 < n) (x1 : Int32) (x2 : Int32) (x3 : Int32) (σ : wt_St) : wt_T (wp_tr_weigh n x1 x2 x3 σ) (fun q => wt_fr (fun i k => False) (fun i => i = 102 ∨ i = 103 ∨ i = 104 ∨ i = 105) σ q) := by
  unfold wp_tr_weigh
  refine wt_T_bi (wq_tx_needOf n hn x1 x2 σ) (fun r1 h2 => ?_)
  have e3 := h2
  rw [e3]
  refine wt_T_bi (wq_sk_reach n hn 40 x2 r1.1 σ) (fun r4 h5 => ?_)
  have e6 := h5
  rw [e6]
  refine wt_T_bi (wq_tr_reachWithoutLeast n hn x2 r1.1 σ) (fun r7 h8 => ?_)
  have e9 := h8
  rw [e9]
  refine wt_T_bi (wq_ap_put n hn 102 x2 r4.1 σ) (fun r10 h11 => ?_)
  have f12 := h11
  refine wt_T_bi (wq_ap_put n hn 103 x2 r7.1 r10) (fun r13 h14 => ?_)
  have f15 := h14
  refine wt_T_bi (wq_sk_reach n hn 40 x2 (r1.1 - (1 : Int32)) r13) (fun r16 h17 => ?_)
  have e18 := h17
  rw [e18]
  refine wt_T_bi (wq_tr_joined n hn r4.1 r16.1 x3 r13) (fun r19 h20 => ?_)
  have e21 := h20
  rw [e21]
  refine wt_T_bi (wq_ap_put n hn 104 x2 r19.1 r13) (fun r22 h23 => ?_)
  have f24 := h23
  refine wt_T_bi (wq_tr_reachWithoutLeast n hn x2 (r1.1 - (1 : Int32)) r22) (fun r25 h26 => ?_)
  have e27 := h26
  rw [e27]
  refine wt_T_bi (wq_tr_joined n hn r7.1 r25.1 x3 r22) (fun r28 h29 => ?_)
  have e30 := h29
  rw [e30]
  refine wt_T_bi (wq_ap_put n hn 105 x2 r28.1 r22) (fun r31 h32 => ?_)
  have f33 := h32
  refine wt_T_some ?_
  exact (wt_fr.tr (wt_fr.tr (wt_fr.tr (wt_fr.tr wt_fr.rf f12 (fun i k h => h.elim) (fun i h => by (try dsimp only at h); exact Or.inl (by first | exact h | omega))) f15 (fun i k h => h.elim) (fun i h => by (try dsimp only at h); exact Or.inr (Or.inl (by first | exact h | omega)))) f24 (fun i k h => h.elim) (fun i h => by (try dsimp only at h); exact Or.inr (Or.inr (Or.inl (by first | exact h | omega))))) f33 (fun i k h => h.elim) (fun i h => by (try dsimp only at h); exact Or.inr (Or.inr (Or.inr (by first | exact h | omega)))))
set_option maxRecDepth 100000 in
set_option maxHeartbeats 4000000 in
theorem wq_tr_bestCast (n : Nat) (hn : 4294967297 < n) (x1 : Int32) (x2 : Int32) (σ : wt_St) : wt_T (wp_tr_bestCast n x1 x2 σ) (fun q => wt_fr (fun i k => False) (fun i => i = 102 ∨ i = 103 ∨ i = 104 ∨ i = 105) σ q.2) := by
  unfold wp_tr_bestCast
  have k6 : (0 : Int32).toInt = 0 := by decide
  refine wt_T_it (fun s : Int32 × wt_St => wt_fr (fun i k => False) (fun i => i = 102 ∨ i = 103 ∨ i = 104 ∨ i = 105) σ s.2 ∧ 0 ≤ (s.1).toInt) (fun s : Int32 × wt_St => ((26 : Int32).toInt - s.1.toInt + 0).toNat) (fun KK1 z2 I3 hKK1 => ?_) _ _ ?_ ?_
  · skip
    obtain ⟨l4, l5⟩ := I3
    unfold wp_tr_bestCast_B2
    have k7 : (26 : Int32).toInt = 26 := by decide
    have bb8 := wt_bd z2.1
    refine wt_T_if (fun h9 => ?_) (fun h9 => ?_)
    · skip
      have c10 := wt_cle h9
      refine wt_T_bi (wq_tr_leastOf n hn (-1 : Int32) (-1 : Int32) z2.2) (fun r11 h12 => ?_)
      have e13 := h12
      rw [e13]
      refine wt_T_it (fun s : Int32 × Int32 × Int32 × wt_St => s.2.2.2 = z2.2 ∧ 0 ≤ (s.2.2.1).toInt) (fun s : Int32 × Int32 × Int32 × wt_St => ((26 : Int32).toInt - s.2.2.1.toInt + 0).toNat) (fun KK14 z15 I16 hKK14 => ?_) _ _ ?_ ?_
      · skip
        obtain ⟨l17, l18⟩ := I16
        unfold wp_tr_bestCast_B34
        rw [l17]
        have bb19 := wt_bd z15.2.2.1
        refine wt_T_if (fun h20 => ?_) (fun h20 => ?_)
        · skip
          have c21 := wt_cle h20
          refine wt_T_some ?_
          exact (wt_fr.tr wt_fr.rf l4 (fun i k h => h.elim) (fun i h => by (try dsimp only at h); rcases h with h | h | h | h; exact Or.inl (by first | exact h | omega); exact Or.inr (Or.inl (by first | exact h | omega)); exact Or.inr (Or.inr (Or.inl (by first | exact h | omega))); exact Or.inr (Or.inr (Or.inr (by first | exact h | omega)))))
        · skip
          have c22 := wt_ncle h20
          refine wt_T_bi (wq_tr_leastOf n hn (-1 : Int32) z15.2.2.1 z2.2) (fun r23 h24 => ?_)
          have e25 := h24
          rw [e25]
          have bb26 := wt_bd r23.1
          have bb27 := wt_bd z15.1
          refine wt_T_if (fun h28 => ?_) (fun h28 => ?_)
          · skip
            have c29 := wt_cle h28
            unfold wp_tr_bestCast_B63
            refine hKK14 _ ⟨rfl, (wt_nn (B := (26 : Int32)) (by omega) (by first | (rw [l17]; omega) | (rw [l17]; done) | omega))⟩ ?_
            show ((26 : Int32).toInt - (z15.2.2.1 + (1 : Int32)).toInt + 0).toNat < ((26 : Int32).toInt - z15.2.2.1.toInt + 0).toNat
            exact wt_mu (by first | (rw [l17]; omega) | (rw [l17]; done) | omega) (by first | (rw [l17]; omega) | (rw [l17]; done) | omega)
          · skip
            have c30 := wt_ncle h28
            unfold wp_tr_bestCast_B63
            refine hKK14 _ ⟨rfl, (wt_nn (B := (26 : Int32)) (by omega) (by first | (rw [l17]; omega) | (rw [l17]; done) | omega))⟩ ?_
            show ((26 : Int32).toInt - (z15.2.2.1 + (1 : Int32)).toInt + 0).toNat < ((26 : Int32).toInt - z15.2.2.1.toInt + 0).toNat
            exact wt_mu (by first | (rw [l17]; omega) | (rw [l17]; done) | omega) (by first | (rw [l17]; omega) | (rw [l17]; done) | omega)
      · skip
        exact ⟨rfl, (show 0 ≤ ((0 : Int32)).toInt by omega)⟩
      · skip
        show ((26 : Int32).toInt - (0 : Int32).toInt + 0).toNat < n
        omega
    · skip
      have c31 := wt_ncle h9
      refine wt_T_bi (wq_tr_weigh n hn x1 z2.1 x2 z2.2) (fun r32 h33 => ?_)
      have f34 := h33
      refine hKK1 _ ⟨(wt_fr.tr (wt_fr.tr wt_fr.rf l4 (fun i k h => h.elim) (fun i h => by (try dsimp only at h); rcases h with h | h | h | h; exact Or.inl (by first | exact h | omega); exact Or.inr (Or.inl (by first | exact h | omega)); exact Or.inr (Or.inr (Or.inl (by first | exact h | omega))); exact Or.inr (Or.inr (Or.inr (by first | exact h | omega))))) f34 (fun i k h => h.elim) (fun i h => by (try dsimp only at h); rcases h with h | h | h | h; exact Or.inl (by first | exact h | omega); exact Or.inr (Or.inl (by first | exact h | omega)); exact Or.inr (Or.inr (Or.inl (by first | exact h | omega))); exact Or.inr (Or.inr (Or.inr (by first | exact h | omega))))), (wt_nn (B := (26 : Int32)) (by omega) (by omega))⟩ ?_
      show ((26 : Int32).toInt - (z2.1 + (1 : Int32)).toInt + 0).toNat < ((26 : Int32).toInt - z2.1.toInt + 0).toNat
      exact wt_mu (by omega) (by omega)
  · skip
    have k35 : (26 : Int32).toInt = 26 := by decide
    exact ⟨wt_fr.rf, (show 0 ≤ ((0 : Int32)).toInt by omega)⟩
  · skip
    have k36 : (26 : Int32).toInt = 26 := by decide
    show ((26 : Int32).toInt - (0 : Int32).toInt + 0).toNat < n
    omega
set_option maxRecDepth 100000 in
set_option maxHeartbeats 4000000 in
theorem wq_ap_copyRow (n : Nat) (hn : 4294967297 < n) (a0 : Nat) (a1 : Nat) (σ : wt_St) : wt_T (wp_ap_copyRow n a0 a1 σ) (fun q => wt_fr (fun i k => False) (fun i => i = a1) σ q) := by
  unfold wp_ap_copyRow
  have k6 : (0 : Int32).toInt = 0 := by decide
  refine wt_T_it (fun s : Int32 × wt_St => wt_fr (fun i k => False) (fun i => i = a1) σ s.2 ∧ 0 ≤ (s.1).toInt) (fun s : Int32 × wt_St => ((nI (wt_ln a0)).toInt - s.1.toInt + 0).toNat) (fun KK1 z2 I3 hKK1 => ?_) _ _ ?_ ?_
  · skip
    obtain ⟨l4, l5⟩ := I3
    unfold wp_ap_copyRow_B2
    have bb7 := wt_lnI a0
    have bb8 := wt_bd z2.1
    refine wt_T_if (fun h9 => ?_) (fun h9 => ?_)
    · skip
      have c10 := wt_cle h9
      refine wt_T_some ?_
      exact (wt_fr.tr wt_fr.rf l4 (fun i k h => h.elim) (fun i h => by (try dsimp only at h); exact (by first | exact h | omega)))
    · skip
      have c11 := wt_ncle h9
      have bb12 := wt_lnI a1
      refine wt_T_if (fun h13 => ?_) (fun h13 => ?_)
      · skip
        have c14 := wt_cle h13
        refine wt_T_some ?_
        exact (wt_fr.tr wt_fr.rf l4 (fun i k h => h.elim) (fun i h => by (try dsimp only at h); exact (by first | exact h | omega)))
      · skip
        have c15 := wt_ncle h13
        have bb16 := wt_ln_bd a0
        refine wt_T_gd (wt_ix (by omega) (by omega)) ?_
        have bb17 := wt_ln_bd a1
        refine wt_T_gd (wt_ix (by omega) (by omega)) ?_
        obtain ⟨σ18, eσ18⟩ : ∃ z : wt_St, z = wt_sa z2.2 a1 (Int32.toNatClampNeg z2.1) (wt_ga z2.2 a0 (Int32.toNatClampNeg z2.1)) := ⟨_, rfl⟩
        rw [← eσ18]
        have fσ18 := wt_fr_sa eσ18
        have vσ18 := wt_ceq (wt_v_sa eσ18)
        refine hKK1 _ ⟨(wt_fr.tr (wt_fr.tr wt_fr.rf l4 (fun i k h => h.elim) (fun i h => by (try dsimp only at h); exact (by first | exact h | omega))) fσ18 (fun i k h => h.elim) (fun i h => by (try dsimp only at h); exact (by first | exact h | omega))), (wt_nn (B := nI (wt_ln a0)) (by omega) (by omega))⟩ ?_
        show ((nI (wt_ln a0)).toInt - (z2.1 + (1 : Int32)).toInt + 0).toNat < ((nI (wt_ln a0)).toInt - z2.1.toInt + 0).toNat
        exact wt_mu (by omega) (by omega)
  · skip
    have bb19 := wt_lnI a0
    exact ⟨wt_fr.rf, (show 0 ≤ ((0 : Int32)).toInt by omega)⟩
  · skip
    have bb20 := wt_lnI a0
    show ((nI (wt_ln a0)).toInt - (0 : Int32).toInt + 0).toNat < n
    omega
set_option maxRecDepth 100000 in
set_option maxHeartbeats 4000000 in
theorem wq_ap_count (n : Nat) (hn : 4294967297 < n) (x1 : Int32) (σ : wt_St) : wt_T (wp_ap_count n x1 σ) (fun q => q.2 = σ) := by
  unfold wp_ap_count
  have bb1 := wt_bd x1
  have k2 : (0 : Int32).toInt = 0 := by decide
  refine wt_T_if (fun h3 => ?_) (fun h3 => ?_)
  · skip
    have c4 := wt_ceq h3
    refine wt_T_some ?_
    exact rfl
  · skip
    have c5 := wt_nceq h3
    have k6 : (1 : Int32).toInt = 1 := by decide
    refine wt_T_if (fun h7 => ?_) (fun h7 => ?_)
    · skip
      have c8 := wt_ceq h7
      refine wt_T_some ?_
      exact rfl
    · skip
      have c9 := wt_nceq h7
      refine wt_T_some ?_
      exact rfl
set_option maxRecDepth 100000 in
set_option maxHeartbeats 4000000 in
theorem wq_tg_has (n : Nat) (hn : 4294967297 < n) (t0 : Nat) (x1 : Int32) (σ : wt_St) : wt_T (wp_tg_has n t0 x1 σ) (fun q => q.2 = σ) := by
  unfold wp_tg_has
  have bb1 := wt_bd x1
  have k2 : (0 : Int32).toInt = 0 := by decide
  refine wt_T_if (fun h3 => ?_) (fun h3 => ?_)
  · skip
    have c4 := wt_clt h3
    refine wt_T_some ?_
    exact rfl
  · skip
    have c5 := wt_ncl h3
    have bb6 := wt_bd (wt_gf σ t0 6)
    refine wt_T_if (fun h7 => ?_) (fun h7 => ?_)
    · skip
      have c8 := wt_cle h7
      refine wt_T_some ?_
      exact rfl
    · skip
      have c9 := wt_ncle h7
      refine wt_T_some ?_
      exact rfl
set_option maxRecDepth 100000 in
set_option maxHeartbeats 4000000 in
theorem wq_sk_lacking (n : Nat) (hn : 4294967297 < n) (a1 : Nat) (a3 : Nat) (x2 : Int32) (σ : wt_St) : wt_T (wp_sk_lacking n a1 a3 x2 σ) (fun q => q.2 = σ) := by
  unfold wp_sk_lacking
  have k6 : (0 : Int32).toInt = 0 := by decide
  refine wt_T_it (fun s : Int32 × wt_St => s.2 = σ ∧ 0 ≤ (s.1).toInt) (fun s : Int32 × wt_St => ((nI (wt_ln a1)).toInt - s.1.toInt + 0).toNat) (fun KK1 z2 I3 hKK1 => ?_) _ _ ?_ ?_
  · skip
    obtain ⟨l4, l5⟩ := I3
    unfold wp_sk_lacking_B3
    rw [l4]
    have bb7 := wt_lnI a1
    have bb8 := wt_bd z2.1
    refine wt_T_if (fun h9 => ?_) (fun h9 => ?_)
    · skip
      have c10 := wt_cle h9
      refine wt_T_some ?_
      exact rfl
    · skip
      have c11 := wt_ncle h9
      have bb12 := wt_ln_bd a1
      refine wt_T_gd (wt_ix (by omega) (by omega)) ?_
      have bb13 := wt_tn z2.1
      have bb14 := wt_bd (wt_ga σ a1 (Int32.toNatClampNeg z2.1))
      refine wt_T_if (fun h15 => ?_) (fun h15 => ?_)
      · skip
        have c16 := wt_cle h15
        unfold wp_sk_lacking_B35
        refine hKK1 _ ⟨rfl, (wt_nn (B := nI (wt_ln a1)) (by omega) (by first | (rw [l4]; omega) | (rw [l4]; done) | omega))⟩ ?_
        show ((nI (wt_ln a1)).toInt - (z2.1 + (1 : Int32)).toInt + 0).toNat < ((nI (wt_ln a1)).toInt - z2.1.toInt + 0).toNat
        exact wt_mu (by first | (rw [l4]; omega) | (rw [l4]; done) | omega) (by first | (rw [l4]; omega) | (rw [l4]; done) | omega)
      · skip
        have c17 := wt_ncle h15
        refine wt_T_bi (wq_sk_ready n hn a3 z2.1 x2 σ) (fun r18 h19 => ?_)
        have e20 := h19
        rw [e20]
        refine wt_T_gd (wt_ix (by omega) (by omega)) ?_
        have bb21 := wt_bd r18.1
        refine wt_T_if (fun h22 => ?_) (fun h22 => ?_)
        · skip
          have c23 := wt_cle h22
          unfold wp_sk_lacking_B35
          refine hKK1 _ ⟨rfl, (wt_nn (B := nI (wt_ln a1)) (by omega) (by first | (rw [l4]; omega) | (rw [l4]; done) | omega))⟩ ?_
          show ((nI (wt_ln a1)).toInt - (z2.1 + (1 : Int32)).toInt + 0).toNat < ((nI (wt_ln a1)).toInt - z2.1.toInt + 0).toNat
          exact wt_mu (by first | (rw [l4]; omega) | (rw [l4]; done) | omega) (by first | (rw [l4]; omega) | (rw [l4]; done) | omega)
        · skip
          have c24 := wt_ncle h22
          refine wt_T_some ?_
          exact rfl
  · skip
    have bb25 := wt_lnI a1
    exact ⟨rfl, (show 0 ≤ ((0 : Int32)).toInt by omega)⟩
  · skip
    have bb26 := wt_lnI a1
    show ((nI (wt_ln a1)).toInt - (0 : Int32).toInt + 0).toNat < n
    omega
set_option maxRecDepth 100000 in
set_option maxHeartbeats 4000000 in
theorem wq_sk_comesFirst (n : Nat) (hn : 4294967297 < n) (x1 : Int32) (x2 : Int32) (σ : wt_St) : wt_T (wp_sk_comesFirst n x1 x2 σ) (fun q => q.2 = σ) := by
  unfold wp_sk_comesFirst
  have bb1 := wt_bd (wt_gf σ 39 9)
  have k2 : (0 : Int32).toInt = 0 := by decide
  refine wt_T_if (fun h3 => ?_) (fun h3 => ?_)
  · skip
    have c4 := wt_ceq h3
    have bb5 := wt_bd x2
    have bb6 := wt_bd x1
    refine wt_T_if (fun h7 => ?_) (fun h7 => ?_)
    · skip
      have c8 := wt_cle h7
      refine wt_T_some ?_
      exact rfl
    · skip
      have c9 := wt_ncle h7
      refine wt_T_some ?_
      exact rfl
  · skip
    have c10 := wt_nceq h3
    have bb11 := wt_bd x1
    have bb12 := wt_bd x2
    refine wt_T_if (fun h13 => ?_) (fun h13 => ?_)
    · skip
      have c14 := wt_cle h13
      refine wt_T_some ?_
      exact rfl
    · skip
      have c15 := wt_ncle h13
      refine wt_T_some ?_
      exact rfl
set_option maxRecDepth 100000 in
set_option maxHeartbeats 4000000 in
theorem wq_sk_choose (n : Nat) (hn : 4294967297 < n) (a3 : Nat) (x1 : Int32) (x2 : Int32) (x4 : Int32) (σ : wt_St) : wt_T (wp_sk_choose n a3 x1 x2 x4 σ) (fun q => q.2 = σ) := by
  unfold wp_sk_choose
  have k6 : (0 : Int32).toInt = 0 := by decide
  refine wt_T_it (fun s : Int32 × Int32 × wt_St => s.2.2 = σ ∧ 0 ≤ (s.2.1).toInt) (fun s : Int32 × Int32 × wt_St => ((wt_lk 5 x1 s.2.2).toInt - s.2.1.toInt + 0).toNat) (fun KK1 z2 I3 hKK1 => ?_) _ _ ?_ ?_
  · skip
    obtain ⟨l4, l5⟩ := I3
    unfold wp_sk_choose_B6
    rw [l4]
    have bb7 := wt_bd (wt_lk 5 x1 σ)
    have bb8 := wt_bd z2.2.1
    refine wt_T_bi (wq_sk_pieces n hn x1 σ) (fun r9 h10 => ?_)
    obtain ⟨e11, e11v⟩ := h10
    have e12 := wt_ceq e11v
    have bb13 := wt_bd r9.1
    rw [e11]
    refine wt_T_if (fun h14 => ?_) (fun h14 => ?_)
    · skip
      have c15 := wt_cle h14
      refine wt_T_some ?_
      exact rfl
    · skip
      have c16 := wt_ncle h14
      refine wt_T_bi (wq_ap_look n hn a3 ((x1 * (12 : Int32)) + z2.2.1) σ) (fun r17 h18 => ?_)
      obtain ⟨e19, e19v⟩ := h18
      have e20 := wt_ceq e19v
      have bb21 := wt_bd (wt_lk a3 ((x1 * (12 : Int32)) + z2.2.1) σ)
      have bb22 := wt_bd r17.1
      rw [e19]
      have bb23 := wt_bd x4
      have k24 : (31 : Int32).toInt = 31 := by decide
      have bb25 := wt_bd (z2.2.1 &&& 31)
      have bb26 := wt_bd (x4 >>> (z2.2.1 &&& 31))
      have k27 : (1 : Int32).toInt = 1 := by decide
      have bb28 := wt_bd ((x4 >>> (z2.2.1 &&& 31)) &&& (1 : Int32))
      refine wt_T_if (fun h29 => ?_) (fun h29 => ?_)
      · skip
        have c30 := wt_ceq h29
        refine wt_T_bi (wq_sk_lies n hn ((x1 * (12 : Int32)) + z2.2.1) σ) (fun r31 h32 => ?_)
        have e33 := h32
        rw [e33]
        have bb34 := wt_bd r31.1
        refine wt_T_if (fun h35 => ?_) (fun h35 => ?_)
        · skip
          have c36 := wt_ceq h35
          unfold wp_sk_choose_B83
          refine hKK1 _ ⟨rfl, (wt_nn (B := wt_lk 5 x1 z2.2.2) (by omega) (by first | (rw [l4]; omega) | (rw [l4]; done) | omega))⟩ ?_
          show ((wt_lk 5 x1 σ).toInt - (z2.2.1 + (1 : Int32)).toInt + 0).toNat < ((wt_lk 5 x1 z2.2.2).toInt - z2.2.1.toInt + 0).toNat
          exact wt_mu (by first | (rw [l4]; omega) | (rw [l4]; done) | omega) (by first | (rw [l4]; omega) | (rw [l4]; done) | omega)
        · skip
          have c37 := wt_nceq h35
          have bb38 := wt_bd x2
          refine wt_T_if (fun h39 => ?_) (fun h39 => ?_)
          · skip
            have c40 := wt_clt h39
            unfold wp_sk_choose_B83
            refine hKK1 _ ⟨rfl, (wt_nn (B := wt_lk 5 x1 z2.2.2) (by omega) (by first | (rw [l4]; omega) | (rw [l4]; done) | omega))⟩ ?_
            show ((wt_lk 5 x1 σ).toInt - (z2.2.1 + (1 : Int32)).toInt + 0).toNat < ((wt_lk 5 x1 z2.2.2).toInt - z2.2.1.toInt + 0).toNat
            exact wt_mu (by first | (rw [l4]; omega) | (rw [l4]; done) | omega) (by first | (rw [l4]; omega) | (rw [l4]; done) | omega)
          · skip
            have c41 := wt_ncl h39
            have bb42 := wt_bd z2.1
            refine wt_T_if (fun h43 => ?_) (fun h43 => ?_)
            · skip
              have c44 := wt_ceq h43
              rw [wt_lm1] at c44
              unfold wp_sk_choose_B79
              unfold wp_sk_choose_B83
              refine hKK1 _ ⟨rfl, (wt_nn (B := wt_lk 5 x1 z2.2.2) (by omega) (by first | (rw [l4]; omega) | (rw [l4]; done) | omega))⟩ ?_
              show ((wt_lk 5 x1 σ).toInt - (z2.2.1 + (1 : Int32)).toInt + 0).toNat < ((wt_lk 5 x1 z2.2.2).toInt - z2.2.1.toInt + 0).toNat
              exact wt_mu (by first | (rw [l4]; omega) | (rw [l4]; done) | omega) (by first | (rw [l4]; omega) | (rw [l4]; done) | omega)
            · skip
              have c45 := wt_nceq h43
              rw [wt_lm1] at c45
              refine wt_T_bi (wq_ap_look n hn a3 z2.1 σ) (fun r46 h47 => ?_)
              obtain ⟨e48, e48v⟩ := h47
              have e49 := wt_ceq e48v
              have bb50 := wt_bd (wt_lk a3 z2.1 σ)
              have bb51 := wt_bd r46.1
              rw [e48]
              refine wt_T_bi (wq_sk_comesFirst n hn r17.1 r46.1 σ) (fun r52 h53 => ?_)
              have e54 := h53
              rw [e54]
              have bb55 := wt_bd r52.1
              refine wt_T_if (fun h56 => ?_) (fun h56 => ?_)
              · skip
                have c57 := wt_ceq h56
                unfold wp_sk_choose_B83
                refine hKK1 _ ⟨rfl, (wt_nn (B := wt_lk 5 x1 z2.2.2) (by omega) (by first | (rw [l4]; omega) | (rw [l4]; done) | omega))⟩ ?_
                show ((wt_lk 5 x1 σ).toInt - (z2.2.1 + (1 : Int32)).toInt + 0).toNat < ((wt_lk 5 x1 z2.2.2).toInt - z2.2.1.toInt + 0).toNat
                exact wt_mu (by first | (rw [l4]; omega) | (rw [l4]; done) | omega) (by first | (rw [l4]; omega) | (rw [l4]; done) | omega)
              · skip
                have c58 := wt_nceq h56
                unfold wp_sk_choose_B79
                unfold wp_sk_choose_B83
                refine hKK1 _ ⟨rfl, (wt_nn (B := wt_lk 5 x1 z2.2.2) (by omega) (by first | (rw [l4]; omega) | (rw [l4]; done) | omega))⟩ ?_
                show ((wt_lk 5 x1 σ).toInt - (z2.2.1 + (1 : Int32)).toInt + 0).toNat < ((wt_lk 5 x1 z2.2.2).toInt - z2.2.1.toInt + 0).toNat
                exact wt_mu (by first | (rw [l4]; omega) | (rw [l4]; done) | omega) (by first | (rw [l4]; omega) | (rw [l4]; done) | omega)
      · skip
        have c59 := wt_nceq h29
        unfold wp_sk_choose_B83
        refine hKK1 _ ⟨rfl, (wt_nn (B := wt_lk 5 x1 z2.2.2) (by omega) (by first | (rw [l4]; omega) | (rw [l4]; done) | omega))⟩ ?_
        show ((wt_lk 5 x1 σ).toInt - (z2.2.1 + (1 : Int32)).toInt + 0).toNat < ((wt_lk 5 x1 z2.2.2).toInt - z2.2.1.toInt + 0).toNat
        exact wt_mu (by first | (rw [l4]; omega) | (rw [l4]; done) | omega) (by first | (rw [l4]; omega) | (rw [l4]; done) | omega)
  · skip
    have bb60 := wt_bd (wt_lk 5 x1 σ)
    exact ⟨rfl, (show 0 ≤ ((0 : Int32)).toInt by omega)⟩
  · skip
    have bb61 := wt_bd (wt_lk 5 x1 σ)
    show ((wt_lk 5 x1 σ).toInt - (0 : Int32).toInt + 0).toNat < n
    omega
set_option maxRecDepth 100000 in
set_option maxHeartbeats 4000000 in
theorem wq_sk_wear (n : Nat) (hn : 4294967297 < n) (a1 : Nat) (a3 : Nat) (x2 : Int32) (σ : wt_St) (h13 : a1 ≠ a3) : wt_T (wp_sk_wear n a1 a3 x2 σ) (fun q => wt_fr (fun i k => False) (fun i => i = a3) σ q) := by
  unfold wp_sk_wear
  have k6 : (0 : Int32).toInt = 0 := by decide
  refine wt_T_it (fun s : Int32 × wt_St => wt_fr (fun i k => False) (fun i => i = a3) σ s.2 ∧ 0 ≤ (s.1).toInt) (fun s : Int32 × wt_St => ((nI (wt_ln a1)).toInt - s.1.toInt + 0).toNat) (fun KK1 z2 I3 hKK1 => ?_) _ _ ?_ ?_
  · skip
    obtain ⟨l4, l5⟩ := I3
    unfold wp_sk_wear_B3
    have bb7 := wt_lnI a1
    have bb8 := wt_bd z2.1
    refine wt_T_if (fun h9 => ?_) (fun h9 => ?_)
    · skip
      have c10 := wt_cle h9
      refine wt_T_some ?_
      exact (wt_fr.tr wt_fr.rf l4 (fun i k h => h.elim) (fun i h => by (try dsimp only at h); exact (by first | exact h | omega)))
    · skip
      have c11 := wt_ncle h9
      refine wt_T_it (fun s : Int32 × Int32 × wt_St => wt_fr (fun i k => False) (fun i => i = a3) z2.2 s.2.2 ∧ 0 ≤ (s.2.1).toInt) (fun s : Int32 × Int32 × wt_St => ((wt_ga s.2.2 a1 (Int32.toNatClampNeg z2.1)).toInt - s.2.1.toInt + 0).toNat) (fun KK12 z13 I14 hKK12 => ?_) _ _ ?_ ?_
      · skip
        obtain ⟨l15, l16⟩ := I14
        unfold wp_sk_wear_B16
        have bb17 := wt_tn z2.1
        have bb18 := wt_bd (wt_ga z13.2.2 a1 (Int32.toNatClampNeg z2.1))
        have tt19 : (wt_ga z13.2.2 a1 (Int32.toNatClampNeg z2.1)).toInt = (wt_ga z2.2 a1 (Int32.toNatClampNeg z2.1)).toInt := congrArg Int32.toInt (l15.2 a1 (by (try dsimp only); omega) (Int32.toNatClampNeg z2.1))
        have bb20 := wt_bd (wt_ga z2.2 a1 (Int32.toNatClampNeg z2.1))
        have tt21 : (wt_ga z2.2 a1 (Int32.toNatClampNeg z2.1)).toInt = (wt_ga σ a1 (Int32.toNatClampNeg z2.1)).toInt := congrArg Int32.toInt (l4.2 a1 (by (try dsimp only); omega) (Int32.toNatClampNeg z2.1))
        have bb22 := wt_bd (wt_ga σ a1 (Int32.toNatClampNeg z2.1))
        have bb23 := wt_bd z13.2.1
        have bb24 := wt_ln_bd a1
        refine wt_T_gd (wt_ix (by omega) (by omega)) ?_
        refine wt_T_if (fun h25 => ?_) (fun h25 => ?_)
        · skip
          have c26 := wt_cle h25
          refine hKK1 _ ⟨(wt_fr.tr (wt_fr.tr wt_fr.rf l4 (fun i k h => h.elim) (fun i h => by (try dsimp only at h); exact (by first | exact h | omega))) l15 (fun i k h => h.elim) (fun i h => by (try dsimp only at h); exact (by first | exact h | omega))), (wt_nn (B := nI (wt_ln a1)) (by omega) (by omega))⟩ ?_
          show ((nI (wt_ln a1)).toInt - (z2.1 + (1 : Int32)).toInt + 0).toNat < ((nI (wt_ln a1)).toInt - z2.1.toInt + 0).toNat
          exact wt_mu (by omega) (by omega)
        · skip
          have c27 := wt_ncle h25
          refine wt_T_bi (wq_sk_choose n hn a3 z2.1 x2 z13.1 z13.2.2) (fun r28 h29 => ?_)
          have e30 := h29
          rw [e30]
          have bb31 := wt_bd r28.1
          refine wt_T_if (fun h32 => ?_) (fun h32 => ?_)
          · skip
            have c33 := wt_ceq h32
            rw [wt_lm1] at c33
            refine wt_T_some ?_
            exact (wt_fr.tr (wt_fr.tr wt_fr.rf l4 (fun i k h => h.elim) (fun i h => by (try dsimp only at h); exact (by first | exact h | omega))) l15 (fun i k h => h.elim) (fun i h => by (try dsimp only at h); exact (by first | exact h | omega)))
          · skip
            have c34 := wt_nceq h32
            rw [wt_lm1] at c34
            refine wt_T_bi (wq_ap_look n hn a3 r28.1 z13.2.2) (fun r35 h36 => ?_)
            obtain ⟨e37, e37v⟩ := h36
            have e38 := wt_ceq e37v
            have bb39 := wt_bd (wt_lk a3 r28.1 z13.2.2)
            have bb40 := wt_bd r35.1
            rw [e37]
            refine wt_T_bi (wq_ap_put n hn a3 r28.1 (r35.1 - x2) z13.2.2) (fun r41 h42 => ?_)
            have f43 := h42
            have bb44 := wt_bd (wt_ga r41 a1 (Int32.toNatClampNeg z2.1))
            have tt45 : (wt_ga r41 a1 (Int32.toNatClampNeg z2.1)).toInt = (wt_ga z13.2.2 a1 (Int32.toNatClampNeg z2.1)).toInt := congrArg Int32.toInt (f43.2 a1 (by (try dsimp only); omega) (Int32.toNatClampNeg z2.1))
            refine hKK12 _ ⟨(wt_fr.tr (wt_fr.tr wt_fr.rf l15 (fun i k h => h.elim) (fun i h => by (try dsimp only at h); exact (by first | exact h | omega))) f43 (fun i k h => h.elim) (fun i h => by (try dsimp only at h); exact (by first | exact h | omega))), (wt_nn (B := wt_ga z13.2.2 a1 (Int32.toNatClampNeg z2.1)) (by omega) (by omega))⟩ ?_
            show ((wt_ga r41 a1 (Int32.toNatClampNeg z2.1)).toInt - (z13.2.1 + (1 : Int32)).toInt + 0).toNat < ((wt_ga z13.2.2 a1 (Int32.toNatClampNeg z2.1)).toInt - z13.2.1.toInt + 0).toNat
            exact wt_mu (by omega) (by omega)
      · skip
        have bb46 := wt_tn z2.1
        have bb47 := wt_bd (wt_ga z2.2 a1 (Int32.toNatClampNeg z2.1))
        have tt48 : (wt_ga z2.2 a1 (Int32.toNatClampNeg z2.1)).toInt = (wt_ga σ a1 (Int32.toNatClampNeg z2.1)).toInt := congrArg Int32.toInt (l4.2 a1 (by (try dsimp only); omega) (Int32.toNatClampNeg z2.1))
        have bb49 := wt_bd (wt_ga σ a1 (Int32.toNatClampNeg z2.1))
        exact ⟨wt_fr.rf, (show 0 ≤ ((0 : Int32)).toInt by omega)⟩
      · skip
        have bb50 := wt_tn z2.1
        have bb51 := wt_bd (wt_ga z2.2 a1 (Int32.toNatClampNeg z2.1))
        have tt52 : (wt_ga z2.2 a1 (Int32.toNatClampNeg z2.1)).toInt = (wt_ga σ a1 (Int32.toNatClampNeg z2.1)).toInt := congrArg Int32.toInt (l4.2 a1 (by (try dsimp only); omega) (Int32.toNatClampNeg z2.1))
        have bb53 := wt_bd (wt_ga σ a1 (Int32.toNatClampNeg z2.1))
        show ((wt_ga z2.2 a1 (Int32.toNatClampNeg z2.1)).toInt - (0 : Int32).toInt + 0).toNat < n
        omega
  · skip
    have bb54 := wt_lnI a1
    exact ⟨wt_fr.rf, (show 0 ≤ ((0 : Int32)).toInt by omega)⟩
  · skip
    have bb55 := wt_lnI a1
    show ((nI (wt_ln a1)).toInt - (0 : Int32).toInt + 0).toNat < n
    omega
set_option maxRecDepth 100000 in
set_option maxHeartbeats 4000000 in
theorem wq_wk_printOne (n : Nat) (hn : 4294967297 < n) (a2 : Nat) (x1 : Int32) (σ : wt_St) (h2 : a2 ≠ 100) : wt_T (wp_wk_printOne n a2 x1 σ) (fun q => wt_fr (fun i k => False) (fun i => i = 100 ∨ i = a2) σ q.2) := by
  unfold wp_wk_printOne
  refine wt_T_bi (wq_ap_look n hn 45 x1 σ) (fun r1 h2 => ?_)
  obtain ⟨e3, e3v⟩ := h2
  have e4 := wt_ceq e3v
  have bb5 := wt_bd (wt_lk 45 x1 σ)
  have bb6 := wt_bd r1.1
  rw [e3]
  refine wt_T_bi (wq_ap_look n hn 44 x1 σ) (fun r7 h8 => ?_)
  obtain ⟨e9, e9v⟩ := h8
  have e10 := wt_ceq e9v
  have bb11 := wt_bd (wt_lk 44 x1 σ)
  have bb12 := wt_bd r7.1
  rw [e9]
  refine wt_T_bi (wq_tx_spell n hn 100 r7.1 σ) (fun r13 h14 => ?_)
  have f15 := h14
  refine wt_T_bi (wq_sk_lacking n hn 100 a2 r1.1 r13) (fun r16 h17 => ?_)
  have e18 := h17
  rw [e18]
  have bb19 := wt_bd r16.1
  refine wt_T_if (fun h20 => ?_) (fun h20 => ?_)
  · skip
    have c21 := wt_ceq h20
    rw [wt_lm1] at c21
    refine wt_T_bi (wq_sk_wear n hn 100 a2 r1.1 r13 (by omega)) (fun r22 h23 => ?_)
    have f24 := h23
    refine wt_T_some ?_
    exact (wt_fr.tr (wt_fr.tr wt_fr.rf f15 (fun i k h => h.elim) (fun i h => by (try dsimp only at h); exact Or.inl (by first | exact h | omega))) f24 (fun i k h => h.elim) (fun i h => by (try dsimp only at h); exact Or.inr (by first | exact h | omega)))
  · skip
    have c25 := wt_nceq h20
    rw [wt_lm1] at c25
    refine wt_T_some ?_
    exact (wt_fr.tr wt_fr.rf f15 (fun i k h => h.elim) (fun i h => by (try dsimp only at h); exact Or.inl (by first | exact h | omega)))
set_option maxRecDepth 100000 in
set_option maxHeartbeats 4000000 in
theorem wq_wk_printNext (n : Nat) (hn : 4294967297 < n) (x1 : Int32) (σ : wt_St) : wt_T (wp_wk_printNext n x1 σ) (fun q => wt_fr (fun i k => (i = 86 ∧ k = 8) ∨ (i = 86 ∧ k = 9)) (fun i => i = 100 ∨ i = 98) σ q) := by
  unfold wp_wk_printNext
  refine wt_T_bi (wq_wk_printOne n hn 98 x1 σ (by omega)) (fun r1 h2 => ?_)
  have f3 := h2
  have bb4 := wt_bd r1.1
  have k5 : (0 : Int32).toInt = 0 := by decide
  refine wt_T_if (fun h6 => ?_) (fun h6 => ?_)
  · skip
    have c7 := wt_ceq h6
    refine wt_T_some ?_
    exact (wt_fr.tr wt_fr.rf f3 (fun i k h => h.elim) (fun i h => by (try dsimp only at h); rcases h with h | h; exact Or.inl (by first | exact h | omega); exact Or.inr (by first | exact h | omega)))
  · skip
    have c8 := wt_nceq h6
    refine wt_T_bi (wq_ap_look n hn 47 x1 r1.2) (fun r9 h10 => ?_)
    obtain ⟨e11, e11v⟩ := h10
    have e12 := wt_ceq e11v
    have bb13 := wt_bd (wt_lk 47 x1 r1.2)
    have bb14 := wt_bd r9.1
    rw [e11]
    obtain ⟨σ15, eσ15⟩ : ∃ z : wt_St, z = wt_sf r1.2 86 8 ((wt_gf r1.2 86 8) + r9.1) := ⟨_, rfl⟩
    rw [← eσ15]
    have fσ15 := wt_fr_sf eσ15
    have vσ15 := wt_ceq (wt_v_sf eσ15)
    obtain ⟨σ16, eσ16⟩ : ∃ z : wt_St, z = wt_sf σ15 86 9 ((wt_gf σ15 86 9) ||| ((1 : Int32) <<< (x1 &&& 31))) := ⟨_, rfl⟩
    rw [← eσ16]
    have fσ16 := wt_fr_sf eσ16
    have vσ16 := wt_ceq (wt_v_sf eσ16)
    refine wt_T_some ?_
    exact (wt_fr.tr (wt_fr.tr (wt_fr.tr wt_fr.rf f3 (fun i k h => h.elim) (fun i h => by (try dsimp only at h); rcases h with h | h; exact Or.inl (by first | exact h | omega); exact Or.inr (by first | exact h | omega))) fσ15 (fun i k h => by (try dsimp only at h); exact Or.inl (by first | exact h | omega)) (fun i h => h.elim)) fσ16 (fun i k h => by (try dsimp only at h); exact Or.inr (by first | exact h | omega)) (fun i h => h.elim))
set_option maxRecDepth 100000 in
set_option maxHeartbeats 4000000 in
theorem wq_wk_sortByWeek (n : Nat) (hn : 4294967297 < n) (σ : wt_St) : wt_T (wp_wk_sortByWeek n σ) (fun q => wt_fr (fun i k => False) (fun i => i = 99) σ q) := by
  unfold wp_wk_sortByWeek
  have k6 : (0 : Int32).toInt = 0 := by decide
  refine wt_T_it (fun s : Int32 × wt_St => wt_fr (fun i k => False) (fun i => i = 99) σ s.2 ∧ 0 ≤ (s.1).toInt) (fun s : Int32 × wt_St => ((wt_gf s.2 39 8).toInt - s.1.toInt + 0).toNat) (fun KK1 z2 I3 hKK1 => ?_) _ _ ?_ ?_
  · skip
    obtain ⟨l4, l5⟩ := I3
    unfold wp_wk_sortByWeek_B2
    have bb7 := wt_bd (wt_gf z2.2 39 8)
    have tt8 : (wt_gf z2.2 39 8).toInt = (wt_gf σ 39 8).toInt := congrArg Int32.toInt (l4.1 39 8 (fun z => z))
    have bb9 := wt_bd (wt_gf σ 39 8)
    have bb10 := wt_bd z2.1
    refine wt_T_if (fun h11 => ?_) (fun h11 => ?_)
    · skip
      have c12 := wt_cle h11
      refine wt_T_some ?_
      exact (wt_fr.tr wt_fr.rf l4 (fun i k h => h.elim) (fun i h => by (try dsimp only at h); exact (by first | exact h | omega)))
    · skip
      have c13 := wt_ncle h11
      refine wt_T_bi (wq_ap_look n hn 46 z2.1 z2.2) (fun r14 h15 => ?_)
      obtain ⟨e16, e16v⟩ := h15
      have e17 := wt_ceq e16v
      have bb18 := wt_bd (wt_lk 46 z2.1 z2.2)
      have bb19 := wt_bd r14.1
      rw [e16]
      refine wt_T_it (fun s : Int32 × wt_St => wt_fr (fun i k => False) (fun i => i = 99) z2.2 s.2) (fun s : Int32 × wt_St => (s.1.toInt + 0).toNat) (fun KK20 z21 I22 hKK20 => ?_) _ _ ?_ ?_
      · skip
        have l23 := I22
        unfold wp_wk_sortByWeek_B27
        have bb24 := wt_bd z21.1
        refine wt_T_if (fun h25 => ?_) (fun h25 => ?_)
        · skip
          have c26 := wt_cle h25
          unfold wp_wk_sortByWeek_B79
          refine wt_T_bi (wq_ap_put n hn 99 z21.1 z2.1 z21.2) (fun r27 h28 => ?_)
          have f29 := h28
          have bb30 := wt_bd (wt_gf r27 39 8)
          have tt31 : (wt_gf r27 39 8).toInt = (wt_gf z21.2 39 8).toInt := congrArg Int32.toInt (f29.1 39 8 (fun z => z))
          have bb32 := wt_bd (wt_gf z21.2 39 8)
          have tt33 : (wt_gf z21.2 39 8).toInt = (wt_gf z2.2 39 8).toInt := congrArg Int32.toInt (l23.1 39 8 (fun z => z))
          refine hKK1 _ ⟨(wt_fr.tr (wt_fr.tr (wt_fr.tr wt_fr.rf l4 (fun i k h => h.elim) (fun i h => by (try dsimp only at h); exact (by first | exact h | omega))) l23 (fun i k h => h.elim) (fun i h => by (try dsimp only at h); exact (by first | exact h | omega))) f29 (fun i k h => h.elim) (fun i h => by (try dsimp only at h); exact (by first | exact h | omega))), (wt_nn (B := wt_gf z2.2 39 8) (by omega) (by omega))⟩ ?_
          show ((wt_gf r27 39 8).toInt - (z2.1 + (1 : Int32)).toInt + 0).toNat < ((wt_gf z2.2 39 8).toInt - z2.1.toInt + 0).toNat
          exact wt_mu (by omega) (by omega)
        · skip
          have c34 := wt_ncle h25
          refine wt_T_bi (wq_ap_look n hn 99 (z21.1 - (1 : Int32)) z21.2) (fun r35 h36 => ?_)
          obtain ⟨e37, e37v⟩ := h36
          have e38 := wt_ceq e37v
          have bb39 := wt_bd (wt_lk 99 (z21.1 - (1 : Int32)) z21.2)
          have bb40 := wt_bd r35.1
          rw [e37]
          refine wt_T_bi (wq_ap_look n hn 46 r35.1 z21.2) (fun r41 h42 => ?_)
          obtain ⟨e43, e43v⟩ := h42
          have e44 := wt_ceq e43v
          have bb45 := wt_bd (wt_lk 46 r35.1 z21.2)
          have bb46 := wt_bd r41.1
          rw [e43]
          refine wt_T_if (fun h47 => ?_) (fun h47 => ?_)
          · skip
            have c48 := wt_cle h47
            unfold wp_wk_sortByWeek_B79
            refine wt_T_bi (wq_ap_put n hn 99 z21.1 z2.1 z21.2) (fun r49 h50 => ?_)
            have f51 := h50
            have bb52 := wt_bd (wt_gf r49 39 8)
            have tt53 : (wt_gf r49 39 8).toInt = (wt_gf z21.2 39 8).toInt := congrArg Int32.toInt (f51.1 39 8 (fun z => z))
            have bb54 := wt_bd (wt_gf z21.2 39 8)
            have tt55 : (wt_gf z21.2 39 8).toInt = (wt_gf z2.2 39 8).toInt := congrArg Int32.toInt (l23.1 39 8 (fun z => z))
            refine hKK1 _ ⟨(wt_fr.tr (wt_fr.tr (wt_fr.tr wt_fr.rf l4 (fun i k h => h.elim) (fun i h => by (try dsimp only at h); exact (by first | exact h | omega))) l23 (fun i k h => h.elim) (fun i h => by (try dsimp only at h); exact (by first | exact h | omega))) f51 (fun i k h => h.elim) (fun i h => by (try dsimp only at h); exact (by first | exact h | omega))), (wt_nn (B := wt_gf z2.2 39 8) (by omega) (by omega))⟩ ?_
            show ((wt_gf r49 39 8).toInt - (z2.1 + (1 : Int32)).toInt + 0).toNat < ((wt_gf z2.2 39 8).toInt - z2.1.toInt + 0).toNat
            exact wt_mu (by omega) (by omega)
          · skip
            have c56 := wt_ncle h47
            refine wt_T_bi (wq_ap_look n hn 99 (z21.1 - (1 : Int32)) z21.2) (fun r57 h58 => ?_)
            obtain ⟨e59, e59v⟩ := h58
            have e60 := wt_ceq e59v
            have bb61 := wt_bd r57.1
            rw [e59]
            refine wt_T_bi (wq_ap_put n hn 99 z21.1 r57.1 z21.2) (fun r62 h63 => ?_)
            have f64 := h63
            refine hKK20 _ (wt_fr.tr (wt_fr.tr wt_fr.rf l23 (fun i k h => h.elim) (fun i h => by (try dsimp only at h); exact (by first | exact h | omega))) f64 (fun i k h => h.elim) (fun i h => by (try dsimp only at h); exact (by first | exact h | omega))) ?_
            show ((z21.1 + (-1 : Int32)).toInt + 0).toNat < (z21.1.toInt + 0).toNat
            exact wt_md0 (by omega)
      · skip
        exact wt_fr.rf
      · skip
        show (z2.1.toInt + 0).toNat < n
        omega
  · skip
    have bb65 := wt_bd (wt_gf σ 39 8)
    exact ⟨wt_fr.rf, (show 0 ≤ ((0 : Int32)).toInt by omega)⟩
  · skip
    have bb66 := wt_bd (wt_gf σ 39 8)
    show ((wt_gf σ 39 8).toInt - (0 : Int32).toInt + 0).toNat < n
    omega
set_option maxRecDepth 100000 in
set_option maxHeartbeats 4000000 in
theorem wq_wk_startGreedy (n : Nat) (hn : 4294967297 < n) (σ : wt_St) : wt_T (wp_wk_startGreedy n σ) (fun q => wt_fr (fun i k => (i = 86 ∧ k = 8) ∨ (i = 86 ∧ k = 9)) (fun i => i = 99 ∨ i = 98) σ q) := by
  unfold wp_wk_startGreedy
  refine wt_T_bi (wq_wk_sortByWeek n hn σ) (fun r1 h2 => ?_)
  have f3 := h2
  obtain ⟨σ4, eσ4⟩ : ∃ z : wt_St, z = wt_sf r1 86 8 (0 : Int32) := ⟨_, rfl⟩
  rw [← eσ4]
  have fσ4 := wt_fr_sf eσ4
  have vσ4 := wt_ceq (wt_v_sf eσ4)
  obtain ⟨σ5, eσ5⟩ : ∃ z : wt_St, z = wt_sf σ4 86 9 (0 : Int32) := ⟨_, rfl⟩
  rw [← eσ5]
  have fσ5 := wt_fr_sf eσ5
  have vσ5 := wt_ceq (wt_v_sf eσ5)
  refine wt_T_bi (wq_ap_copyRow n hn 40 98 σ5) (fun r6 h7 => ?_)
  have f8 := h7
  refine wt_T_some ?_
  exact (wt_fr.tr (wt_fr.tr (wt_fr.tr (wt_fr.tr wt_fr.rf f3 (fun i k h => h.elim) (fun i h => by (try dsimp only at h); exact Or.inl (by first | exact h | omega))) fσ4 (fun i k h => by (try dsimp only at h); exact Or.inl (by first | exact h | omega)) (fun i h => h.elim)) fσ5 (fun i k h => by (try dsimp only at h); exact Or.inr (by first | exact h | omega)) (fun i h => h.elim)) f8 (fun i k h => h.elim) (fun i h => by (try dsimp only at h); exact Or.inr (by first | exact h | omega)))
set_option maxRecDepth 100000 in
set_option maxHeartbeats 4000000 in
theorem wq_ap_fillRow (n : Nat) (hn : 4294967297 < n) (a0 : Nat) (x1 : Int32) (σ : wt_St) : wt_T (wp_ap_fillRow n a0 x1 σ) (fun q => wt_fr (fun i k => False) (fun i => i = a0) σ q) := by
  unfold wp_ap_fillRow
  have k6 : (0 : Int32).toInt = 0 := by decide
  refine wt_T_it (fun s : Int32 × wt_St => wt_fr (fun i k => False) (fun i => i = a0) σ s.2 ∧ 0 ≤ (s.1).toInt) (fun s : Int32 × wt_St => ((nI (wt_ln a0)).toInt - s.1.toInt + 0).toNat) (fun KK1 z2 I3 hKK1 => ?_) _ _ ?_ ?_
  · skip
    obtain ⟨l4, l5⟩ := I3
    unfold wp_ap_fillRow_B2
    have bb7 := wt_lnI a0
    have bb8 := wt_bd z2.1
    refine wt_T_if (fun h9 => ?_) (fun h9 => ?_)
    · skip
      have c10 := wt_cle h9
      refine wt_T_some ?_
      exact (wt_fr.tr wt_fr.rf l4 (fun i k h => h.elim) (fun i h => by (try dsimp only at h); exact (by first | exact h | omega)))
    · skip
      have c11 := wt_ncle h9
      have bb12 := wt_ln_bd a0
      refine wt_T_gd (wt_ix (by omega) (by omega)) ?_
      obtain ⟨σ13, eσ13⟩ : ∃ z : wt_St, z = wt_sa z2.2 a0 (Int32.toNatClampNeg z2.1) x1 := ⟨_, rfl⟩
      rw [← eσ13]
      have fσ13 := wt_fr_sa eσ13
      have vσ13 := wt_ceq (wt_v_sa eσ13)
      refine hKK1 _ ⟨(wt_fr.tr (wt_fr.tr wt_fr.rf l4 (fun i k h => h.elim) (fun i h => by (try dsimp only at h); exact (by first | exact h | omega))) fσ13 (fun i k h => h.elim) (fun i h => by (try dsimp only at h); exact (by first | exact h | omega))), (wt_nn (B := nI (wt_ln a0)) (by omega) (by omega))⟩ ?_
      show ((nI (wt_ln a0)).toInt - (z2.1 + (1 : Int32)).toInt + 0).toNat < ((nI (wt_ln a0)).toInt - z2.1.toInt + 0).toNat
      exact wt_mu (by omega) (by omega)
  · skip
    have bb14 := wt_lnI a0
    exact ⟨wt_fr.rf, (show 0 ≤ ((0 : Int32)).toInt by omega)⟩
  · skip
    have bb15 := wt_lnI a0
    show ((nI (wt_ln a0)).toInt - (0 : Int32).toInt + 0).toNat < n
    omega
set_option maxRecDepth 100000 in
set_option maxHeartbeats 4000000 in
theorem wq_tg_letterAt (n : Nat) (hn : 4294967297 < n) (t0 : Nat) (x1 : Int32) (x2 : Int32) (σ : wt_St) : wt_T (wp_tg_letterAt n t0 x1 x2 σ) (fun q => q.2 = σ) := by
  unfold wp_tg_letterAt
  refine wt_T_bi (wq_ap_look n hn (t0 + 1) ((x1 * (9 : Int32)) + x2) σ) (fun r1 h2 => ?_)
  obtain ⟨e3, e3v⟩ := h2
  have e4 := wt_ceq e3v
  have bb5 := wt_bd (wt_lk (t0 + 1) ((x1 * (9 : Int32)) + x2) σ)
  have bb6 := wt_bd r1.1
  rw [e3]
  refine wt_T_some ?_
  exact rfl
set_option maxRecDepth 100000 in
set_option maxHeartbeats 4000000 in
theorem wq_tg_countInto (n : Nat) (hn : 4294967297 < n) (t0 : Nat) (a2 : Nat) (x1 : Int32) (σ : wt_St) : wt_T (wp_tg_countInto n t0 a2 x1 σ) (fun q => wt_fr (fun i k => False) (fun i => i = a2) σ q) := by
  unfold wp_tg_countInto
  refine wt_T_bi (wq_ap_look n hn (t0 + 2) x1 σ) (fun r1 h2 => ?_)
  obtain ⟨e3, e3v⟩ := h2
  have e4 := wt_ceq e3v
  have bb5 := wt_bd (wt_lk (t0 + 2) x1 σ)
  have bb6 := wt_bd r1.1
  rw [e3]
  have k12 : (0 : Int32).toInt = 0 := by decide
  refine wt_T_it (fun s : Int32 × wt_St => wt_fr (fun i k => False) (fun i => i = a2) σ s.2 ∧ 0 ≤ (s.1).toInt) (fun s : Int32 × wt_St => (r1.1.toInt - s.1.toInt + 0).toNat) (fun KK7 z8 I9 hKK7 => ?_) _ _ ?_ ?_
  · skip
    obtain ⟨l10, l11⟩ := I9
    unfold wp_tg_countInto_B12
    have bb13 := wt_bd z8.1
    refine wt_T_if (fun h14 => ?_) (fun h14 => ?_)
    · skip
      have c15 := wt_cle h14
      refine wt_T_some ?_
      exact (wt_fr.tr wt_fr.rf l10 (fun i k h => h.elim) (fun i h => by (try dsimp only at h); exact (by first | exact h | omega)))
    · skip
      have c16 := wt_ncle h14
      refine wt_T_bi (wq_tg_letterAt n hn t0 x1 z8.1 z8.2) (fun r17 h18 => ?_)
      have e19 := h18
      rw [e19]
      refine wt_T_bi (wq_ap_look n hn a2 r17.1 z8.2) (fun r20 h21 => ?_)
      obtain ⟨e22, e22v⟩ := h21
      have e23 := wt_ceq e22v
      have bb24 := wt_bd (wt_lk a2 r17.1 z8.2)
      have bb25 := wt_bd r20.1
      rw [e22]
      refine wt_T_bi (wq_ap_put n hn a2 r17.1 (r20.1 + (1 : Int32)) z8.2) (fun r26 h27 => ?_)
      have f28 := h27
      refine hKK7 _ ⟨(wt_fr.tr (wt_fr.tr wt_fr.rf l10 (fun i k h => h.elim) (fun i h => by (try dsimp only at h); exact (by first | exact h | omega))) f28 (fun i k h => h.elim) (fun i h => by (try dsimp only at h); exact (by first | exact h | omega))), (wt_nn (B := r1.1) (by omega) (by omega))⟩ ?_
      show (r1.1.toInt - (z8.1 + (1 : Int32)).toInt + 0).toNat < (r1.1.toInt - z8.1.toInt + 0).toNat
      exact wt_mu (by omega) (by omega)
  · skip
    exact ⟨wt_fr.rf, (show 0 ≤ ((0 : Int32)).toInt by omega)⟩
  · skip
    show (r1.1.toInt - (0 : Int32).toInt + 0).toNat < n
    omega
set_option maxRecDepth 100000 in
set_option maxHeartbeats 4000000 in
theorem wq_tg_spell (n : Nat) (hn : 4294967297 < n) (t0 : Nat) (a2 : Nat) (x1 : Int32) (σ : wt_St) : wt_T (wp_tg_spell n t0 a2 x1 σ) (fun q => wt_fr (fun i k => False) (fun i => i = a2) σ q) := by
  unfold wp_tg_spell
  refine wt_T_bi (wq_ap_fillRow n hn a2 (0 : Int32) σ) (fun r1 h2 => ?_)
  have f3 := h2
  refine wt_T_bi (wq_tg_countInto n hn t0 a2 x1 r1) (fun r4 h5 => ?_)
  have f6 := h5
  refine wt_T_some ?_
  exact (wt_fr.tr (wt_fr.tr wt_fr.rf f3 (fun i k h => h.elim) (fun i h => by (try dsimp only at h); exact (by first | exact h | omega))) f6 (fun i k h => h.elim) (fun i h => by (try dsimp only at h); exact (by first | exact h | omega)))
set_option maxRecDepth 100000 in
set_option maxHeartbeats 4000000 in
theorem wq_wk_stillSaid (n : Nat) (hn : 4294967297 < n) (x1 : Int32) (σ : wt_St) : wt_T (wp_wk_stillSaid n x1 σ) (fun q => wt_fr (fun i k => False) (fun i => i = 100) σ q.2) := by
  unfold wp_wk_stillSaid
  refine wt_T_bi (wq_tg_spell n hn 20 100 x1 σ) (fun r1 h2 => ?_)
  have f3 := h2
  refine wt_T_bi (wq_sk_often n hn 100 98 r1) (fun r4 h5 => ?_)
  have e6 := h5
  rw [e6]
  refine wt_T_some ?_
  exact (wt_fr.tr wt_fr.rf f3 (fun i k h => h.elim) (fun i h => by (try dsimp only at h); exact (by first | exact h | omega)))
set_option maxRecDepth 100000 in
set_option maxHeartbeats 4000000 in
theorem wq_wk_firstLost (n : Nat) (hn : 4294967297 < n) (x1 : Int32) (σ : wt_St) : wt_T (wp_wk_firstLost n x1 σ) (fun q => wt_fr (fun i k => (i = 86 ∧ k = 8) ∨ (i = 86 ∧ k = 9)) (fun i => i = 99 ∨ i = 98 ∨ i = 100) σ q.2) := by
  unfold wp_wk_firstLost
  refine wt_T_bi (wq_wk_startGreedy n hn σ) (fun r1 h2 => ?_)
  have f3 := h2
  refine wt_T_bi (wq_wk_stillSaid n hn x1 r1) (fun r4 h5 => ?_)
  have f6 := h5
  have bb7 := wt_bd r4.1
  have k8 : (0 : Int32).toInt = 0 := by decide
  refine wt_T_if (fun h9 => ?_) (fun h9 => ?_)
  · skip
    have c10 := wt_ceq h9
    refine wt_T_some ?_
    exact (wt_fr.tr (wt_fr.tr wt_fr.rf f3 (fun i k h => by (try dsimp only at h); rcases h with h | h; exact Or.inl (by first | exact h | omega); exact Or.inr (by first | exact h | omega)) (fun i h => by (try dsimp only at h); rcases h with h | h; exact Or.inl (by first | exact h | omega); exact Or.inr (Or.inl (by first | exact h | omega)))) f6 (fun i k h => h.elim) (fun i h => by (try dsimp only at h); exact Or.inr (Or.inr (by first | exact h | omega))))
  · skip
    have c11 := wt_nceq h9
    refine wt_T_it (fun s : Int32 × wt_St => wt_fr (fun i k => (i = 86 ∧ k = 8) ∨ (i = 86 ∧ k = 9)) (fun i => i = 100 ∨ i = 98) r4.2 s.2 ∧ 0 ≤ (s.1).toInt) (fun s : Int32 × wt_St => ((wt_gf s.2 39 8).toInt - s.1.toInt + 0).toNat) (fun KK12 z13 I14 hKK12 => ?_) _ _ ?_ ?_
    · skip
      obtain ⟨l15, l16⟩ := I14
      unfold wp_wk_firstLost_B16
      have bb17 := wt_bd (wt_gf z13.2 39 8)
      have tt18 : (wt_gf z13.2 39 8).toInt = (wt_gf r4.2 39 8).toInt := congrArg Int32.toInt (l15.1 39 8 (by (try dsimp only); omega))
      have bb19 := wt_bd (wt_gf r4.2 39 8)
      have tt20 : (wt_gf r4.2 39 8).toInt = (wt_gf r1 39 8).toInt := congrArg Int32.toInt (f6.1 39 8 (fun z => z))
      have bb21 := wt_bd (wt_gf r1 39 8)
      have tt22 : (wt_gf r1 39 8).toInt = (wt_gf σ 39 8).toInt := congrArg Int32.toInt (f3.1 39 8 (by (try dsimp only); omega))
      have bb23 := wt_bd (wt_gf σ 39 8)
      have bb24 := wt_bd z13.1
      refine wt_T_if (fun h25 => ?_) (fun h25 => ?_)
      · skip
        have c26 := wt_cle h25
        refine wt_T_some ?_
        exact (wt_fr.tr (wt_fr.tr (wt_fr.tr wt_fr.rf f3 (fun i k h => by (try dsimp only at h); rcases h with h | h; exact Or.inl (by first | exact h | omega); exact Or.inr (by first | exact h | omega)) (fun i h => by (try dsimp only at h); rcases h with h | h; exact Or.inl (by first | exact h | omega); exact Or.inr (Or.inl (by first | exact h | omega)))) f6 (fun i k h => h.elim) (fun i h => by (try dsimp only at h); exact Or.inr (Or.inr (by first | exact h | omega)))) l15 (fun i k h => by (try dsimp only at h); rcases h with h | h; exact Or.inl (by first | exact h | omega); exact Or.inr (by first | exact h | omega)) (fun i h => by (try dsimp only at h); rcases h with h | h; exact Or.inr (Or.inr (by first | exact h | omega)); exact Or.inr (Or.inl (by first | exact h | omega))))
      · skip
        have c27 := wt_ncle h25
        refine wt_T_bi (wq_ap_look n hn 99 z13.1 z13.2) (fun r28 h29 => ?_)
        obtain ⟨e30, e30v⟩ := h29
        have e31 := wt_ceq e30v
        have bb32 := wt_bd (wt_lk 99 z13.1 z13.2)
        have bb33 := wt_bd r28.1
        rw [e30]
        refine wt_T_bi (wq_wk_printNext n hn r28.1 z13.2) (fun r34 h35 => ?_)
        have f36 := h35
        refine wt_T_bi (wq_wk_stillSaid n hn x1 r34) (fun r37 h38 => ?_)
        have f39 := h38
        have bb40 := wt_bd r37.1
        refine wt_T_if (fun h41 => ?_) (fun h41 => ?_)
        · skip
          have c42 := wt_ceq h41
          refine wt_T_bi (wq_ap_look n hn 46 r28.1 r37.2) (fun r43 h44 => ?_)
          obtain ⟨e45, e45v⟩ := h44
          have e46 := wt_ceq e45v
          have bb47 := wt_bd (wt_lk 46 r28.1 r37.2)
          have bb48 := wt_bd r43.1
          rw [e45]
          refine wt_T_some ?_
          exact (wt_fr.tr (wt_fr.tr (wt_fr.tr (wt_fr.tr (wt_fr.tr wt_fr.rf f3 (fun i k h => by (try dsimp only at h); rcases h with h | h; exact Or.inl (by first | exact h | omega); exact Or.inr (by first | exact h | omega)) (fun i h => by (try dsimp only at h); rcases h with h | h; exact Or.inl (by first | exact h | omega); exact Or.inr (Or.inl (by first | exact h | omega)))) f6 (fun i k h => h.elim) (fun i h => by (try dsimp only at h); exact Or.inr (Or.inr (by first | exact h | omega)))) l15 (fun i k h => by (try dsimp only at h); rcases h with h | h; exact Or.inl (by first | exact h | omega); exact Or.inr (by first | exact h | omega)) (fun i h => by (try dsimp only at h); rcases h with h | h; exact Or.inr (Or.inr (by first | exact h | omega)); exact Or.inr (Or.inl (by first | exact h | omega)))) f36 (fun i k h => by (try dsimp only at h); rcases h with h | h; exact Or.inl (by first | exact h | omega); exact Or.inr (by first | exact h | omega)) (fun i h => by (try dsimp only at h); rcases h with h | h; exact Or.inr (Or.inr (by first | exact h | omega)); exact Or.inr (Or.inl (by first | exact h | omega)))) f39 (fun i k h => h.elim) (fun i h => by (try dsimp only at h); exact Or.inr (Or.inr (by first | exact h | omega))))
        · skip
          have c49 := wt_nceq h41
          have bb50 := wt_bd (wt_gf r37.2 39 8)
          have tt51 : (wt_gf r37.2 39 8).toInt = (wt_gf r34 39 8).toInt := congrArg Int32.toInt (f39.1 39 8 (fun z => z))
          have bb52 := wt_bd (wt_gf r34 39 8)
          have tt53 : (wt_gf r34 39 8).toInt = (wt_gf z13.2 39 8).toInt := congrArg Int32.toInt (f36.1 39 8 (by (try dsimp only); omega))
          refine hKK12 _ ⟨(wt_fr.tr (wt_fr.tr (wt_fr.tr wt_fr.rf l15 (fun i k h => by (try dsimp only at h); rcases h with h | h; exact Or.inl (by first | exact h | omega); exact Or.inr (by first | exact h | omega)) (fun i h => by (try dsimp only at h); rcases h with h | h; exact Or.inl (by first | exact h | omega); exact Or.inr (by first | exact h | omega))) f36 (fun i k h => by (try dsimp only at h); rcases h with h | h; exact Or.inl (by first | exact h | omega); exact Or.inr (by first | exact h | omega)) (fun i h => by (try dsimp only at h); rcases h with h | h; exact Or.inl (by first | exact h | omega); exact Or.inr (by first | exact h | omega))) f39 (fun i k h => h.elim) (fun i h => by (try dsimp only at h); exact Or.inl (by first | exact h | omega))), (wt_nn (B := wt_gf z13.2 39 8) (by omega) (by omega))⟩ ?_
          show ((wt_gf r37.2 39 8).toInt - (z13.1 + (1 : Int32)).toInt + 0).toNat < ((wt_gf z13.2 39 8).toInt - z13.1.toInt + 0).toNat
          exact wt_mu (by omega) (by omega)
    · skip
      have bb54 := wt_bd (wt_gf r4.2 39 8)
      have tt55 : (wt_gf r4.2 39 8).toInt = (wt_gf r1 39 8).toInt := congrArg Int32.toInt (f6.1 39 8 (fun z => z))
      have bb56 := wt_bd (wt_gf r1 39 8)
      have tt57 : (wt_gf r1 39 8).toInt = (wt_gf σ 39 8).toInt := congrArg Int32.toInt (f3.1 39 8 (by (try dsimp only); omega))
      have bb58 := wt_bd (wt_gf σ 39 8)
      exact ⟨wt_fr.rf, (show 0 ≤ ((0 : Int32)).toInt by omega)⟩
    · skip
      have bb59 := wt_bd (wt_gf r4.2 39 8)
      have tt60 : (wt_gf r4.2 39 8).toInt = (wt_gf r1 39 8).toInt := congrArg Int32.toInt (f6.1 39 8 (fun z => z))
      have bb61 := wt_bd (wt_gf r1 39 8)
      have tt62 : (wt_gf r1 39 8).toInt = (wt_gf σ 39 8).toInt := congrArg Int32.toInt (f3.1 39 8 (by (try dsimp only); omega))
      have bb63 := wt_bd (wt_gf σ 39 8)
      show ((wt_gf r4.2 39 8).toInt - (0 : Int32).toInt + 0).toNat < n
      omega
set_option maxRecDepth 100000 in
set_option maxHeartbeats 4000000 in
theorem wq_ld_mostThere (n : Nat) (hn : 4294967297 < n) (t0 : Nat) (x1 : Int32) (σ : wt_St) : wt_T (wp_ld_mostThere n t0 x1 σ) (fun q => q.2 = σ) := by
  unfold wp_ld_mostThere
  have k6 : (0 : Int32).toInt = 0 := by decide
  refine wt_T_it (fun s : Int32 × Int32 × wt_St => s.2.2 = σ ∧ 0 ≤ (s.2.1).toInt) (fun s : Int32 × Int32 × wt_St => ((wt_lk (t0 + 3) x1 s.2.2).toInt - s.2.1.toInt + 0).toNat) (fun KK1 z2 I3 hKK1 => ?_) _ _ ?_ ?_
  · skip
    obtain ⟨l4, l5⟩ := I3
    unfold wp_ld_mostThere_B4
    rw [l4]
    have bb7 := wt_bd (wt_lk (t0 + 3) x1 σ)
    have bb8 := wt_bd z2.2.1
    refine wt_T_bi (wq_ap_look n hn (t0 + 3) x1 σ) (fun r9 h10 => ?_)
    obtain ⟨e11, e11v⟩ := h10
    have e12 := wt_ceq e11v
    have bb13 := wt_bd r9.1
    rw [e11]
    refine wt_T_if (fun h14 => ?_) (fun h14 => ?_)
    · skip
      have c15 := wt_cle h14
      refine wt_T_some ?_
      exact rfl
    · skip
      have c16 := wt_ncle h14
      refine wt_T_bi (wq_ap_look n hn (t0 + 4) ((x1 * (12 : Int32)) + z2.2.1) σ) (fun r17 h18 => ?_)
      obtain ⟨e19, e19v⟩ := h18
      have e20 := wt_ceq e19v
      have bb21 := wt_bd (wt_lk (t0 + 4) ((x1 * (12 : Int32)) + z2.2.1) σ)
      have bb22 := wt_bd r17.1
      rw [e19]
      refine hKK1 _ ⟨rfl, (wt_nn (B := wt_lk (t0 + 3) x1 z2.2.2) (by omega) (by first | (rw [l4]; omega) | (rw [l4]; done) | omega))⟩ ?_
      show ((wt_lk (t0 + 3) x1 σ).toInt - (z2.2.1 + (1 : Int32)).toInt + 0).toNat < ((wt_lk (t0 + 3) x1 z2.2.2).toInt - z2.2.1.toInt + 0).toNat
      exact wt_mu (by first | (rw [l4]; omega) | (rw [l4]; done) | omega) (by first | (rw [l4]; omega) | (rw [l4]; done) | omega)
  · skip
    have bb23 := wt_bd (wt_lk (t0 + 3) x1 σ)
    exact ⟨rfl, (show 0 ≤ ((0 : Int32)).toInt by omega)⟩
  · skip
    have bb24 := wt_bd (wt_lk (t0 + 3) x1 σ)
    show ((wt_lk (t0 + 3) x1 σ).toInt - (0 : Int32).toInt + 0).toNat < n
    omega
set_option maxRecDepth 100000 in
set_option maxHeartbeats 4000000 in
theorem wq_tr_bestExchange (n : Nat) (hn : 4294967297 < n) (x1 : Int32) (σ : wt_St) : wt_T (wp_tr_bestExchange n x1 σ) (fun q => wt_fr (fun i k => False) (fun i => i = 102 ∨ i = 103 ∨ i = 104 ∨ i = 105) σ q.2) := by
  unfold wp_tr_bestExchange
  have k6 : (0 : Int32).toInt = 0 := by decide
  refine wt_T_it (fun s : Int32 × wt_St => wt_fr (fun i k => False) (fun i => i = 102 ∨ i = 103 ∨ i = 104 ∨ i = 105) σ s.2 ∧ 0 ≤ (s.1).toInt) (fun s : Int32 × wt_St => ((26 : Int32).toInt - s.1.toInt + 0).toNat) (fun KK1 z2 I3 hKK1 => ?_) _ _ ?_ ?_
  · skip
    obtain ⟨l4, l5⟩ := I3
    unfold wp_tr_bestExchange_B2
    have k7 : (26 : Int32).toInt = 26 := by decide
    have bb8 := wt_bd z2.1
    refine wt_T_if (fun h9 => ?_) (fun h9 => ?_)
    · skip
      have c10 := wt_cle h9
      refine wt_T_bi (wq_tr_leastOf n hn (-1 : Int32) (-1 : Int32) z2.2) (fun r11 h12 => ?_)
      have e13 := h12
      rw [e13]
      refine wt_T_it (fun s : Int32 × Int32 × Int32 × wt_St => s.2.2.2 = z2.2 ∧ 0 ≤ (s.2.2.1).toInt) (fun s : Int32 × Int32 × Int32 × wt_St => ((26 : Int32).toInt - s.2.2.1.toInt + 0).toNat) (fun KK14 z15 I16 hKK14 => ?_) _ _ ?_ ?_
      · skip
        obtain ⟨l17, l18⟩ := I16
        unfold wp_tr_bestExchange_B40
        rw [l17]
        have bb19 := wt_bd z15.2.2.1
        refine wt_T_if (fun h20 => ?_) (fun h20 => ?_)
        · skip
          have c21 := wt_cle h20
          refine wt_T_some ?_
          exact (wt_fr.tr wt_fr.rf l4 (fun i k h => h.elim) (fun i h => by (try dsimp only at h); rcases h with h | h | h | h; exact Or.inl (by first | exact h | omega); exact Or.inr (Or.inl (by first | exact h | omega)); exact Or.inr (Or.inr (Or.inl (by first | exact h | omega))); exact Or.inr (Or.inr (Or.inr (by first | exact h | omega)))))
        · skip
          have c22 := wt_ncle h20
          refine wt_T_it (fun s : Int32 × Int32 × Int32 × wt_St => s.2.2.2 = z2.2 ∧ 0 ≤ (s.2.2.1).toInt) (fun s : Int32 × Int32 × Int32 × wt_St => ((26 : Int32).toInt - s.2.2.1.toInt + 0).toNat) (fun KK23 z24 I25 hKK23 => ?_) _ _ ?_ ?_
          · skip
            obtain ⟨l26, l27⟩ := I25
            unfold wp_tr_bestExchange_B50
            rw [l26]
            have bb28 := wt_bd z24.2.2.1
            refine wt_T_if (fun h29 => ?_) (fun h29 => ?_)
            · skip
              have c30 := wt_cle h29
              refine hKK14 _ ⟨rfl, (wt_nn (B := (26 : Int32)) (by omega) (by first | (rw [l17]; omega) | (rw [l17]; done) | omega))⟩ ?_
              show ((26 : Int32).toInt - (z15.2.2.1 + (1 : Int32)).toInt + 0).toNat < ((26 : Int32).toInt - z15.2.2.1.toInt + 0).toNat
              exact wt_mu (by first | (rw [l17]; omega) | (rw [l17]; done) | omega) (by first | (rw [l17]; omega) | (rw [l17]; done) | omega)
            · skip
              have c31 := wt_ncle h29
              refine wt_T_bi (wq_sk_inCase n hn z15.2.2.1 z2.2) (fun r32 h33 => ?_)
              have e34 := h33
              rw [e34]
              have bb35 := wt_bd r32.1
              refine wt_T_if (fun h36 => ?_) (fun h36 => ?_)
              · skip
                have c37 := wt_cle h36
                unfold wp_tr_bestExchange_B88
                unfold wp_tr_bestExchange_B89
                refine wt_T_if (fun h38 => ?_) (fun h38 => ?_)
                · skip
                  have c39 := wt_ceq h38
                  unfold wp_tr_bestExchange_B108
                  have bb40 := wt_bd z24.1
                  refine wt_T_if (fun h41 => ?_) (fun h41 => ?_)
                  · skip
                    have c42 := wt_cle h41
                    unfold wp_tr_bestExchange_B128
                    refine hKK23 _ ⟨rfl, (wt_nn (B := (26 : Int32)) (by omega) (by first | (rw [l26]; omega) | (rw [l26]; done) | omega))⟩ ?_
                    show ((26 : Int32).toInt - (z24.2.2.1 + (1 : Int32)).toInt + 0).toNat < ((26 : Int32).toInt - z24.2.2.1.toInt + 0).toNat
                    exact wt_mu (by first | (rw [l26]; omega) | (rw [l26]; done) | omega) (by first | (rw [l26]; omega) | (rw [l26]; done) | omega)
                  · skip
                    have c43 := wt_ncle h41
                    unfold wp_tr_bestExchange_B128
                    refine hKK23 _ ⟨rfl, (wt_nn (B := (26 : Int32)) (by omega) (by first | (rw [l26]; omega) | (rw [l26]; done) | omega))⟩ ?_
                    show ((26 : Int32).toInt - (z24.2.2.1 + (1 : Int32)).toInt + 0).toNat < ((26 : Int32).toInt - z24.2.2.1.toInt + 0).toNat
                    exact wt_mu (by first | (rw [l26]; omega) | (rw [l26]; done) | omega) (by first | (rw [l26]; omega) | (rw [l26]; done) | omega)
                · skip
                  have c44 := wt_nceq h38
                  refine wt_T_bi (wq_tr_leastOf n hn z15.2.2.1 z24.2.2.1 z2.2) (fun r45 h46 => ?_)
                  have e47 := h46
                  rw [e47]
                  unfold wp_tr_bestExchange_B108
                  have bb48 := wt_bd r45.1
                  have bb49 := wt_bd z24.1
                  refine wt_T_if (fun h50 => ?_) (fun h50 => ?_)
                  · skip
                    have c51 := wt_cle h50
                    unfold wp_tr_bestExchange_B128
                    refine hKK23 _ ⟨rfl, (wt_nn (B := (26 : Int32)) (by omega) (by first | (rw [l26]; omega) | (rw [l26]; done) | omega))⟩ ?_
                    show ((26 : Int32).toInt - (z24.2.2.1 + (1 : Int32)).toInt + 0).toNat < ((26 : Int32).toInt - z24.2.2.1.toInt + 0).toNat
                    exact wt_mu (by first | (rw [l26]; omega) | (rw [l26]; done) | omega) (by first | (rw [l26]; omega) | (rw [l26]; done) | omega)
                  · skip
                    have c52 := wt_ncle h50
                    unfold wp_tr_bestExchange_B128
                    refine hKK23 _ ⟨rfl, (wt_nn (B := (26 : Int32)) (by omega) (by first | (rw [l26]; omega) | (rw [l26]; done) | omega))⟩ ?_
                    show ((26 : Int32).toInt - (z24.2.2.1 + (1 : Int32)).toInt + 0).toNat < ((26 : Int32).toInt - z24.2.2.1.toInt + 0).toNat
                    exact wt_mu (by first | (rw [l26]; omega) | (rw [l26]; done) | omega) (by first | (rw [l26]; omega) | (rw [l26]; done) | omega)
              · skip
                have c53 := wt_ncle h36
                refine wt_T_bi (wq_ap_look n hn 7 z24.2.2.1 z2.2) (fun r54 h55 => ?_)
                obtain ⟨e56, e56v⟩ := h55
                have e57 := wt_ceq e56v
                have bb58 := wt_bd (wt_lk 7 z24.2.2.1 z2.2)
                have bb59 := wt_bd r54.1
                rw [e56]
                refine wt_T_if (fun h60 => ?_) (fun h60 => ?_)
                · skip
                  have c61 := wt_cle h60
                  unfold wp_tr_bestExchange_B88
                  unfold wp_tr_bestExchange_B89
                  refine wt_T_if (fun h62 => ?_) (fun h62 => ?_)
                  · skip
                    have c63 := wt_ceq h62
                    unfold wp_tr_bestExchange_B108
                    have bb64 := wt_bd z24.1
                    refine wt_T_if (fun h65 => ?_) (fun h65 => ?_)
                    · skip
                      have c66 := wt_cle h65
                      unfold wp_tr_bestExchange_B128
                      refine hKK23 _ ⟨rfl, (wt_nn (B := (26 : Int32)) (by omega) (by first | (rw [l26]; omega) | (rw [l26]; done) | omega))⟩ ?_
                      show ((26 : Int32).toInt - (z24.2.2.1 + (1 : Int32)).toInt + 0).toNat < ((26 : Int32).toInt - z24.2.2.1.toInt + 0).toNat
                      exact wt_mu (by first | (rw [l26]; omega) | (rw [l26]; done) | omega) (by first | (rw [l26]; omega) | (rw [l26]; done) | omega)
                    · skip
                      have c67 := wt_ncle h65
                      unfold wp_tr_bestExchange_B128
                      refine hKK23 _ ⟨rfl, (wt_nn (B := (26 : Int32)) (by omega) (by first | (rw [l26]; omega) | (rw [l26]; done) | omega))⟩ ?_
                      show ((26 : Int32).toInt - (z24.2.2.1 + (1 : Int32)).toInt + 0).toNat < ((26 : Int32).toInt - z24.2.2.1.toInt + 0).toNat
                      exact wt_mu (by first | (rw [l26]; omega) | (rw [l26]; done) | omega) (by first | (rw [l26]; omega) | (rw [l26]; done) | omega)
                  · skip
                    have c68 := wt_nceq h62
                    refine wt_T_bi (wq_tr_leastOf n hn z15.2.2.1 z24.2.2.1 z2.2) (fun r69 h70 => ?_)
                    have e71 := h70
                    rw [e71]
                    unfold wp_tr_bestExchange_B108
                    have bb72 := wt_bd r69.1
                    have bb73 := wt_bd z24.1
                    refine wt_T_if (fun h74 => ?_) (fun h74 => ?_)
                    · skip
                      have c75 := wt_cle h74
                      unfold wp_tr_bestExchange_B128
                      refine hKK23 _ ⟨rfl, (wt_nn (B := (26 : Int32)) (by omega) (by first | (rw [l26]; omega) | (rw [l26]; done) | omega))⟩ ?_
                      show ((26 : Int32).toInt - (z24.2.2.1 + (1 : Int32)).toInt + 0).toNat < ((26 : Int32).toInt - z24.2.2.1.toInt + 0).toNat
                      exact wt_mu (by first | (rw [l26]; omega) | (rw [l26]; done) | omega) (by first | (rw [l26]; omega) | (rw [l26]; done) | omega)
                    · skip
                      have c76 := wt_ncle h74
                      unfold wp_tr_bestExchange_B128
                      refine hKK23 _ ⟨rfl, (wt_nn (B := (26 : Int32)) (by omega) (by first | (rw [l26]; omega) | (rw [l26]; done) | omega))⟩ ?_
                      show ((26 : Int32).toInt - (z24.2.2.1 + (1 : Int32)).toInt + 0).toNat < ((26 : Int32).toInt - z24.2.2.1.toInt + 0).toNat
                      exact wt_mu (by first | (rw [l26]; omega) | (rw [l26]; done) | omega) (by first | (rw [l26]; omega) | (rw [l26]; done) | omega)
                · skip
                  have c77 := wt_ncle h60
                  unfold wp_tr_bestExchange_B89
                  have k78 : (1 : Int32).toInt = 1 := by decide
                  refine wt_T_if (fun h79 => ?_) (fun h79 => ?_)
                  · skip
                    have c80 := wt_ceq h79
                    unfold wp_tr_bestExchange_B108
                    have bb81 := wt_bd z24.1
                    refine wt_T_if (fun h82 => ?_) (fun h82 => ?_)
                    · skip
                      have c83 := wt_cle h82
                      unfold wp_tr_bestExchange_B128
                      refine hKK23 _ ⟨rfl, (wt_nn (B := (26 : Int32)) (by omega) (by first | (rw [l26]; omega) | (rw [l26]; done) | omega))⟩ ?_
                      show ((26 : Int32).toInt - (z24.2.2.1 + (1 : Int32)).toInt + 0).toNat < ((26 : Int32).toInt - z24.2.2.1.toInt + 0).toNat
                      exact wt_mu (by first | (rw [l26]; omega) | (rw [l26]; done) | omega) (by first | (rw [l26]; omega) | (rw [l26]; done) | omega)
                    · skip
                      have c84 := wt_ncle h82
                      unfold wp_tr_bestExchange_B128
                      refine hKK23 _ ⟨rfl, (wt_nn (B := (26 : Int32)) (by omega) (by first | (rw [l26]; omega) | (rw [l26]; done) | omega))⟩ ?_
                      show ((26 : Int32).toInt - (z24.2.2.1 + (1 : Int32)).toInt + 0).toNat < ((26 : Int32).toInt - z24.2.2.1.toInt + 0).toNat
                      exact wt_mu (by first | (rw [l26]; omega) | (rw [l26]; done) | omega) (by first | (rw [l26]; omega) | (rw [l26]; done) | omega)
                  · skip
                    have c85 := wt_nceq h79
                    refine wt_T_bi (wq_tr_leastOf n hn z15.2.2.1 z24.2.2.1 z2.2) (fun r86 h87 => ?_)
                    have e88 := h87
                    rw [e88]
                    unfold wp_tr_bestExchange_B108
                    have bb89 := wt_bd r86.1
                    have bb90 := wt_bd z24.1
                    refine wt_T_if (fun h91 => ?_) (fun h91 => ?_)
                    · skip
                      have c92 := wt_cle h91
                      unfold wp_tr_bestExchange_B128
                      refine hKK23 _ ⟨rfl, (wt_nn (B := (26 : Int32)) (by omega) (by first | (rw [l26]; omega) | (rw [l26]; done) | omega))⟩ ?_
                      show ((26 : Int32).toInt - (z24.2.2.1 + (1 : Int32)).toInt + 0).toNat < ((26 : Int32).toInt - z24.2.2.1.toInt + 0).toNat
                      exact wt_mu (by first | (rw [l26]; omega) | (rw [l26]; done) | omega) (by first | (rw [l26]; omega) | (rw [l26]; done) | omega)
                    · skip
                      have c93 := wt_ncle h91
                      unfold wp_tr_bestExchange_B128
                      refine hKK23 _ ⟨rfl, (wt_nn (B := (26 : Int32)) (by omega) (by first | (rw [l26]; omega) | (rw [l26]; done) | omega))⟩ ?_
                      show ((26 : Int32).toInt - (z24.2.2.1 + (1 : Int32)).toInt + 0).toNat < ((26 : Int32).toInt - z24.2.2.1.toInt + 0).toNat
                      exact wt_mu (by first | (rw [l26]; omega) | (rw [l26]; done) | omega) (by first | (rw [l26]; omega) | (rw [l26]; done) | omega)
          · skip
            exact ⟨rfl, (show 0 ≤ ((0 : Int32)).toInt by omega)⟩
          · skip
            show ((26 : Int32).toInt - (0 : Int32).toInt + 0).toNat < n
            omega
      · skip
        exact ⟨rfl, (show 0 ≤ ((0 : Int32)).toInt by omega)⟩
      · skip
        show ((26 : Int32).toInt - (0 : Int32).toInt + 0).toNat < n
        omega
    · skip
      have c94 := wt_ncle h9
      refine wt_T_bi (wq_ld_mostThere n hn 4 z2.1 z2.2) (fun r95 h96 => ?_)
      have e97 := h96
      rw [e97]
      refine wt_T_bi (wq_tr_weigh n hn x1 z2.1 r95.1 z2.2) (fun r98 h99 => ?_)
      have f100 := h99
      refine hKK1 _ ⟨(wt_fr.tr (wt_fr.tr wt_fr.rf l4 (fun i k h => h.elim) (fun i h => by (try dsimp only at h); rcases h with h | h | h | h; exact Or.inl (by first | exact h | omega); exact Or.inr (Or.inl (by first | exact h | omega)); exact Or.inr (Or.inr (Or.inl (by first | exact h | omega))); exact Or.inr (Or.inr (Or.inr (by first | exact h | omega))))) f100 (fun i k h => h.elim) (fun i h => by (try dsimp only at h); rcases h with h | h | h | h; exact Or.inl (by first | exact h | omega); exact Or.inr (Or.inl (by first | exact h | omega)); exact Or.inr (Or.inr (Or.inl (by first | exact h | omega))); exact Or.inr (Or.inr (Or.inr (by first | exact h | omega))))), (wt_nn (B := (26 : Int32)) (by omega) (by omega))⟩ ?_
      show ((26 : Int32).toInt - (z2.1 + (1 : Int32)).toInt + 0).toNat < ((26 : Int32).toInt - z2.1.toInt + 0).toNat
      exact wt_mu (by omega) (by omega)
  · skip
    have k101 : (26 : Int32).toInt = 26 := by decide
    exact ⟨wt_fr.rf, (show 0 ≤ ((0 : Int32)).toInt by omega)⟩
  · skip
    have k102 : (26 : Int32).toInt = 26 := by decide
    show ((26 : Int32).toInt - (0 : Int32).toInt + 0).toNat < n
    omega
set_option maxRecDepth 100000 in
set_option maxHeartbeats 4000000 in
theorem wq_ap_fault (n : Nat) (hn : 4294967297 < n) (σ : wt_St) : wt_T (wp_ap_fault n σ) (fun q => q.2 = σ) := by
  unfold wp_ap_fault
  refine wt_T_some ?_
  exact rfl
set_option maxHeartbeats 4000000 in
theorem wq_tp_push (n : Nat) (hn : 4294967297 < n) (x1 : Int32) (σ : wt_St) : wt_T (wp_tp_push n x1 σ) (fun q => wt_fr (fun i k => (i = 1 ∧ k = 2)) (fun i => i = 2) σ q ∧ (0 ≤ (wt_gf σ 1 2).toInt ∧ (wt_gf σ 1 2).toInt ≤ 1000000 → (wt_gf q 1 2).toInt = (wt_gf σ 1 2).toInt + 4)) := by
  unfold wp_tp_push
  have k24 : (24 : Int32).toInt = 24 := by decide
  have k0 : (0 : Int32).toInt = 0 := by decide
  refine wt_T_it (fun s : Int32 × wt_St => wt_fr (fun i k => (i = 1 ∧ k = 2)) (fun i => i = 2) σ s.2 ∧ -8 ≤ s.1.toInt ∧ s.1.toInt ≤ 24 ∧ (0 ≤ (wt_gf σ 1 2).toInt ∧ (wt_gf σ 1 2).toInt ≤ 1000000 → 8 * ((wt_gf s.2 1 2).toInt - (wt_gf σ 1 2).toInt) = 24 - s.1.toInt)) (fun s : Int32 × wt_St => (s.1.toInt + 1).toNat) (fun K z hI hK => ?_) n _ ?_ ?_
  · obtain ⟨f0, l1, l2, l3⟩ := hI
    unfold wp_tp_push_B3
    refine wt_T_if (fun h => ?_) (fun h => ?_)
    · have c := wt_clt h
      exact wt_T_some ⟨f0, fun hh => by have := l3 hh; omega⟩
    · have c := wt_ncl h
      refine wt_T_bi (wq_ap_put n hn _ _ _ _) (fun r f1 => ?_)
      obtain ⟨σ5, e5⟩ : ∃ z : wt_St, z = wt_sf r 1 2 ((wt_gf r 1 2) + (1 : Int32)) := ⟨_, rfl⟩
      rw [← e5]
      have f5 := wt_fr_sf e5
      have v5 := wt_ceq (wt_v_sf e5)
      have t1 : (wt_gf r 1 2).toInt = (wt_gf z.2 1 2).toInt := congrArg Int32.toInt (f1.1 1 2 (fun z => z))
      have d := wt_d8 (c := z.1) (by omega)
      refine hK _ ⟨wt_fr.tr (wt_fr.tr f0 f1 (fun i k h => h.elim) (fun i h => h)) f5 (fun i k h => h) (fun i h => h.elim), (show -8 ≤ (z.1 + (-8 : Int32)).toInt by omega), (show (z.1 + (-8 : Int32)).toInt ≤ 24 by omega), ?_⟩ ?_
      · intro hh
        have := l3 hh
        show 8 * ((wt_gf σ5 1 2).toInt - (wt_gf σ 1 2).toInt) = 24 - (z.1 + (-8 : Int32)).toInt
        have i1 := wt_i1 (c := wt_gf r 1 2) (by omega)
        omega
      · show ((z.1 + (-8 : Int32)).toInt + 1).toNat < (z.1.toInt + 1).toNat
        exact wt_md8 (by omega)
  · exact ⟨wt_fr.rf, (show -8 ≤ (24 : Int32).toInt by omega), (show (24 : Int32).toInt ≤ 24 by omega), fun _ => (show 8 * ((wt_gf σ 1 2).toInt - (wt_gf σ 1 2).toInt) = 24 - (24 : Int32).toInt by omega)⟩
  · show ((24 : Int32).toInt + 1).toNat < n
    omega
set_option maxRecDepth 100000 in
set_option maxHeartbeats 4000000 in
theorem wq_ap_feed (n : Nat) (hn : 4294967297 < n) (x1 : Int32) (x2 : Int32) (x3 : Int32) (x4 : Int32) (x5 : Int32) (σ : wt_St) : wt_T (wp_ap_feed n x1 x2 x3 x4 x5 σ) (fun q => wt_fr (fun i k => (i = 1 ∧ k = 2)) (fun i => i = 2) σ q.2 ∧ (0 ≤ (wt_gf σ 1 2).toInt → ((wt_gf σ 1 2).toInt ≤ 480 → q.1.toInt = (wt_gf σ 1 2).toInt + 20 ∧ (wt_gf q.2 1 2).toInt = (wt_gf σ 1 2).toInt + 20) ∧ (480 < (wt_gf σ 1 2).toInt → q.1.toInt = -1 ∧ (wt_gf q.2 1 2).toInt = (wt_gf σ 1 2).toInt))) := by
  unfold wp_ap_feed
  have bb1 := wt_bd (wt_gf σ 1 2)
  have k2 : (480 : Int32).toInt = 480 := by decide
  refine wt_T_if (fun h3 => ?_) (fun h3 => ?_)
  · skip
    have c4 := wt_cle h3
    have bb5 := wt_bd x1
    refine wt_T_bi (wq_tp_push n hn x1 σ) (fun r6 h7 => ?_)
    obtain ⟨f8, pp9⟩ := h7
    have bb10 := wt_bd x2
    refine wt_T_bi (wq_tp_push n hn x2 r6) (fun r11 h12 => ?_)
    obtain ⟨f13, pp14⟩ := h12
    have bb15 := wt_bd x3
    refine wt_T_bi (wq_tp_push n hn x3 r11) (fun r16 h17 => ?_)
    obtain ⟨f18, pp19⟩ := h17
    have bb20 := wt_bd x4
    refine wt_T_bi (wq_tp_push n hn x4 r16) (fun r21 h22 => ?_)
    obtain ⟨f23, pp24⟩ := h22
    have bb25 := wt_bd x5
    refine wt_T_bi (wq_tp_push n hn x5 r21) (fun r26 h27 => ?_)
    obtain ⟨f28, pp29⟩ := h27
    refine wt_T_some ?_
    have bb30 := wt_bd (wt_gf r26 1 2)
    exact ⟨(wt_fr.tr (wt_fr.tr (wt_fr.tr (wt_fr.tr (wt_fr.tr wt_fr.rf f8 (fun i k h => by (try dsimp only at h); exact (by first | exact h | omega)) (fun i h => by (try dsimp only at h); exact (by first | exact h | omega))) f13 (fun i k h => by (try dsimp only at h); exact (by first | exact h | omega)) (fun i h => by (try dsimp only at h); exact (by first | exact h | omega))) f18 (fun i k h => by (try dsimp only at h); exact (by first | exact h | omega)) (fun i h => by (try dsimp only at h); exact (by first | exact h | omega))) f23 (fun i k h => by (try dsimp only at h); exact (by first | exact h | omega)) (fun i h => by (try dsimp only at h); exact (by first | exact h | omega))) f28 (fun i k h => by (try dsimp only at h); exact (by first | exact h | omega)) (fun i h => by (try dsimp only at h); exact (by first | exact h | omega))), (show (0 ≤ (wt_gf σ 1 2).toInt → ((wt_gf σ 1 2).toInt ≤ 480 → (wt_gf r26 1 2).toInt = (wt_gf σ 1 2).toInt + 20 ∧ (wt_gf r26 1 2).toInt = (wt_gf σ 1 2).toInt + 20) ∧ (480 < (wt_gf σ 1 2).toInt → (wt_gf r26 1 2).toInt = -1 ∧ (wt_gf r26 1 2).toInt = (wt_gf σ 1 2).toInt)) by omega)⟩
  · skip
    have c31 := wt_ncle h3
    refine wt_T_some ?_
    have kk := wt_lm1
    exact ⟨wt_fr.rf, (show (0 ≤ (wt_gf σ 1 2).toInt → ((wt_gf σ 1 2).toInt ≤ 480 → (-1 : Int32).toInt = (wt_gf σ 1 2).toInt + 20 ∧ (wt_gf σ 1 2).toInt = (wt_gf σ 1 2).toInt + 20) ∧ (480 < (wt_gf σ 1 2).toInt → (-1 : Int32).toInt = -1 ∧ (wt_gf σ 1 2).toInt = (wt_gf σ 1 2).toInt)) by omega)⟩
set_option maxRecDepth 100000 in
set_option maxHeartbeats 4000000 in
theorem wq_ld_mayFollow (n : Nat) (hn : 4294967297 < n) (t0 : Nat) (x1 : Int32) (x2 : Int32) (σ : wt_St) : wt_T (wp_ld_mayFollow n t0 x1 x2 σ) (fun q => q.2 = σ) := by
  unfold wp_ld_mayFollow
  refine wt_T_bi (wq_ap_look n hn (t0 + 7) x1 σ) (fun r1 h2 => ?_)
  obtain ⟨e3, e3v⟩ := h2
  have e4 := wt_ceq e3v
  have bb5 := wt_bd (wt_lk (t0 + 7) x1 σ)
  have bb6 := wt_bd r1.1
  rw [e3]
  have bb7 := wt_bd x2
  have k8 : (31 : Int32).toInt = 31 := by decide
  have bb9 := wt_bd (x2 &&& 31)
  have bb10 := wt_bd (r1.1 >>> (x2 &&& 31))
  have k11 : (1 : Int32).toInt = 1 := by decide
  have bb12 := wt_bd ((r1.1 >>> (x2 &&& 31)) &&& (1 : Int32))
  have k13 : (0 : Int32).toInt = 0 := by decide
  refine wt_T_if (fun h14 => ?_) (fun h14 => ?_)
  · skip
    have c15 := wt_ceq h14
    refine wt_T_some ?_
    exact rfl
  · skip
    have c16 := wt_nceq h14
    refine wt_T_some ?_
    exact rfl
set_option maxRecDepth 100000 in
set_option maxHeartbeats 4000000 in
theorem wq_rw_mayFollow (n : Nat) (hn : 4294967297 < n) (x1 : Int32) (x2 : Int32) (σ : wt_St) : wt_T (wp_rw_mayFollow n x1 x2 σ) (fun q => q.2 = σ) := by
  unfold wp_rw_mayFollow
  have bb1 := wt_bd x1
  refine wt_T_if (fun h2 => ?_) (fun h2 => ?_)
  · skip
    have c3 := wt_ceq h2
    rw [wt_lm1] at c3
    refine wt_T_some ?_
    exact rfl
  · skip
    have c4 := wt_nceq h2
    rw [wt_lm1] at c4
    refine wt_T_bi (wq_ap_look n hn 23 x1 σ) (fun r5 h6 => ?_)
    obtain ⟨e7, e7v⟩ := h6
    have e8 := wt_ceq e7v
    have bb9 := wt_bd (wt_lk 23 x1 σ)
    have bb10 := wt_bd r5.1
    rw [e7]
    refine wt_T_bi (wq_ap_look n hn 23 x2 σ) (fun r11 h12 => ?_)
    obtain ⟨e13, e13v⟩ := h12
    have e14 := wt_ceq e13v
    have bb15 := wt_bd (wt_lk 23 x2 σ)
    have bb16 := wt_bd r11.1
    rw [e13]
    refine wt_T_bi (wq_ld_mayFollow n hn 4 r5.1 r11.1 σ) (fun r17 h18 => ?_)
    have e19 := h18
    rw [e19]
    have bb20 := wt_bd r17.1
    have k21 : (0 : Int32).toInt = 0 := by decide
    refine wt_T_if (fun h22 => ?_) (fun h22 => ?_)
    · skip
      have c23 := wt_ceq h22
      refine wt_T_some ?_
      exact rfl
    · skip
      have c24 := wt_nceq h22
      refine wt_T_some ?_
      exact rfl
set_option maxRecDepth 100000 in
set_option maxHeartbeats 4000000 in
theorem wq_rw_priceOf (n : Nat) (hn : 4294967297 < n) (x1 : Int32) (σ : wt_St) : wt_T (wp_rw_priceOf n x1 σ) (fun q => q.2 = σ) := by
  unfold wp_rw_priceOf
  have k6 : (0 : Int32).toInt = 0 := by decide
  refine wt_T_it (fun s : Int32 × Int32 × wt_St => s.2.2 = σ ∧ 0 ≤ (s.2.1).toInt) (fun s : Int32 × Int32 × wt_St => ((wt_lk 22 x1 s.2.2).toInt - s.2.1.toInt + 0).toNat) (fun KK1 z2 I3 hKK1 => ?_) _ _ ?_ ?_
  · skip
    obtain ⟨l4, l5⟩ := I3
    unfold wp_rw_priceOf_B4
    rw [l4]
    have bb7 := wt_bd (wt_lk 22 x1 σ)
    have bb8 := wt_bd z2.2.1
    refine wt_T_bi (wq_ap_look n hn 22 x1 σ) (fun r9 h10 => ?_)
    obtain ⟨e11, e11v⟩ := h10
    have e12 := wt_ceq e11v
    have bb13 := wt_bd r9.1
    rw [e11]
    refine wt_T_if (fun h14 => ?_) (fun h14 => ?_)
    · skip
      have c15 := wt_cle h14
      refine wt_T_some ?_
      exact rfl
    · skip
      have c16 := wt_ncle h14
      refine wt_T_bi (wq_tg_letterAt n hn 20 x1 z2.2.1 σ) (fun r17 h18 => ?_)
      have e19 := h18
      rw [e19]
      refine wt_T_bi (wq_ap_look n hn 9 r17.1 σ) (fun r20 h21 => ?_)
      obtain ⟨e22, e22v⟩ := h21
      have e23 := wt_ceq e22v
      have bb24 := wt_bd (wt_lk 9 r17.1 σ)
      have bb25 := wt_bd r20.1
      rw [e22]
      refine hKK1 _ ⟨rfl, (wt_nn (B := wt_lk 22 x1 z2.2.2) (by omega) (by first | (rw [l4]; omega) | (rw [l4]; done) | omega))⟩ ?_
      show ((wt_lk 22 x1 σ).toInt - (z2.2.1 + (1 : Int32)).toInt + 0).toNat < ((wt_lk 22 x1 z2.2.2).toInt - z2.2.1.toInt + 0).toNat
      exact wt_mu (by first | (rw [l4]; omega) | (rw [l4]; done) | omega) (by first | (rw [l4]; omega) | (rw [l4]; done) | omega)
  · skip
    have bb26 := wt_bd (wt_lk 22 x1 σ)
    exact ⟨rfl, (show 0 ≤ ((0 : Int32)).toInt by omega)⟩
  · skip
    have bb27 := wt_bd (wt_lk 22 x1 σ)
    show ((wt_lk 22 x1 σ).toInt - (0 : Int32).toInt + 0).toNat < n
    omega
set_option maxRecDepth 100000 in
set_option maxHeartbeats 4000000 in
theorem wq_rw_spend (n : Nat) (hn : 4294967297 < n) (x1 : Int32) (x2 : Int32) (σ : wt_St) : wt_T (wp_rw_spend n x1 x2 σ) (fun q => wt_fr (fun i k => False) (fun i => i = 83) σ q.2) := by
  unfold wp_rw_spend
  have k7 : (0 : Int32).toInt = 0 := by decide
  refine wt_T_it (fun s : Int32 × Int32 × wt_St => wt_fr (fun i k => False) (fun i => i = 83) σ s.2.2 ∧ 0 ≤ (s.2.1).toInt ∧ (s.1 = 0 ∨ s.1 = 1)) (fun s : Int32 × Int32 × wt_St => ((wt_lk 22 x1 s.2.2).toInt - s.2.1.toInt + 0).toNat) (fun KK1 z2 I3 hKK1 => ?_) _ _ ?_ ?_
  · skip
    obtain ⟨l4, l5, l6⟩ := I3
    unfold wp_rw_spend_B5
    have bb8 := wt_bd (wt_lk 22 x1 z2.2.2)
    have tt9 : (wt_lk 22 x1 z2.2.2).toInt = (wt_lk 22 x1 σ).toInt := congrArg Int32.toInt (wt_lk_fr (l4.2 22 (by (try dsimp only); omega)))
    have bb10 := wt_bd (wt_lk 22 x1 σ)
    have bb11 := wt_bd z2.2.1
    refine wt_T_bi (wq_ap_look n hn 22 x1 z2.2.2) (fun r12 h13 => ?_)
    obtain ⟨e14, e14v⟩ := h13
    have e15 := wt_ceq e14v
    have bb16 := wt_bd r12.1
    rw [e14]
    refine wt_T_if (fun h17 => ?_) (fun h17 => ?_)
    · skip
      have c18 := wt_cle h17
      refine wt_T_gp (by assumption) ?_
      refine wt_T_some ?_
      exact (wt_fr.tr wt_fr.rf l4 (fun i k h => h.elim) (fun i h => by (try dsimp only at h); exact (by first | exact h | omega)))
    · skip
      have c19 := wt_ncle h17
      refine wt_T_bi (wq_tg_letterAt n hn 20 x1 z2.2.1 z2.2.2) (fun r20 h21 => ?_)
      have e22 := h21
      rw [e22]
      refine wt_T_bi (wq_ap_look n hn 83 r20.1 z2.2.2) (fun r23 h24 => ?_)
      obtain ⟨e25, e25v⟩ := h24
      have e26 := wt_ceq e25v
      have bb27 := wt_bd (wt_lk 83 r20.1 z2.2.2)
      have bb28 := wt_bd r23.1
      rw [e25]
      refine wt_T_bi (wq_ap_put n hn 83 r20.1 (r23.1 - x2) z2.2.2) (fun r29 h30 => ?_)
      have f31 := h30
      have bb32 := wt_bd z2.1
      refine wt_T_if (fun h33 => ?_) (fun h33 => ?_)
      · skip
        have c34 := wt_ceq h33
        unfold wp_rw_spend_B70
        unfold wp_rw_spend_B71
        have bb35 := wt_bd (wt_lk 22 x1 r29)
        have tt36 : (wt_lk 22 x1 r29).toInt = (wt_lk 22 x1 z2.2.2).toInt := congrArg Int32.toInt (wt_lk_fr (f31.2 22 (by (try dsimp only); omega)))
        refine hKK1 _ ⟨(wt_fr.tr (wt_fr.tr wt_fr.rf l4 (fun i k h => h.elim) (fun i h => by (try dsimp only at h); exact (by first | exact h | omega))) f31 (fun i k h => h.elim) (fun i h => by (try dsimp only at h); exact (by first | exact h | omega))), (wt_nn (B := wt_lk 22 x1 z2.2.2) (by omega) (by omega)), (show ((0 : Int32) = 0 ∨ (0 : Int32) = 1) from by first | exact Or.inl rfl | exact Or.inr rfl | assumption)⟩ ?_
        show ((wt_lk 22 x1 r29).toInt - (z2.2.1 + (1 : Int32)).toInt + 0).toNat < ((wt_lk 22 x1 z2.2.2).toInt - z2.2.1.toInt + 0).toNat
        exact wt_mu (by omega) (by omega)
      · skip
        have c37 := wt_nceq h33
        have bb38 := wt_bd x2
        obtain ⟨j39, j39a, j39b⟩ := wt_subI r23.1 x2
        refine wt_T_if (fun h40 => ?_) (fun h40 => ?_)
        · skip
          have c41 := wt_clt h40
          unfold wp_rw_spend_B70
          unfold wp_rw_spend_B71
          have bb42 := wt_bd (wt_lk 22 x1 r29)
          have tt43 : (wt_lk 22 x1 r29).toInt = (wt_lk 22 x1 z2.2.2).toInt := congrArg Int32.toInt (wt_lk_fr (f31.2 22 (by (try dsimp only); omega)))
          refine hKK1 _ ⟨(wt_fr.tr (wt_fr.tr wt_fr.rf l4 (fun i k h => h.elim) (fun i h => by (try dsimp only at h); exact (by first | exact h | omega))) f31 (fun i k h => h.elim) (fun i h => by (try dsimp only at h); exact (by first | exact h | omega))), (wt_nn (B := wt_lk 22 x1 z2.2.2) (by omega) (by omega)), (show ((0 : Int32) = 0 ∨ (0 : Int32) = 1) from by first | exact Or.inl rfl | exact Or.inr rfl | assumption)⟩ ?_
          show ((wt_lk 22 x1 r29).toInt - (z2.2.1 + (1 : Int32)).toInt + 0).toNat < ((wt_lk 22 x1 z2.2.2).toInt - z2.2.1.toInt + 0).toNat
          exact wt_mu (by omega) (by omega)
        · skip
          have c44 := wt_ncl h40
          unfold wp_rw_spend_B71
          have bb45 := wt_bd (wt_lk 22 x1 r29)
          have tt46 : (wt_lk 22 x1 r29).toInt = (wt_lk 22 x1 z2.2.2).toInt := congrArg Int32.toInt (wt_lk_fr (f31.2 22 (by (try dsimp only); omega)))
          refine hKK1 _ ⟨(wt_fr.tr (wt_fr.tr wt_fr.rf l4 (fun i k h => h.elim) (fun i h => by (try dsimp only at h); exact (by first | exact h | omega))) f31 (fun i k h => h.elim) (fun i h => by (try dsimp only at h); exact (by first | exact h | omega))), (wt_nn (B := wt_lk 22 x1 z2.2.2) (by omega) (by omega)), (show ((1 : Int32) = 0 ∨ (1 : Int32) = 1) from by first | exact Or.inl rfl | exact Or.inr rfl | assumption)⟩ ?_
          show ((wt_lk 22 x1 r29).toInt - (z2.2.1 + (1 : Int32)).toInt + 0).toNat < ((wt_lk 22 x1 z2.2.2).toInt - z2.2.1.toInt + 0).toNat
          exact wt_mu (by omega) (by omega)
  · skip
    have bb47 := wt_bd (wt_lk 22 x1 σ)
    exact ⟨wt_fr.rf, (show 0 ≤ ((0 : Int32)).toInt by omega), (show ((1 : Int32) = 0 ∨ (1 : Int32) = 1) from by first | exact Or.inl rfl | exact Or.inr rfl | assumption)⟩
  · skip
    have bb48 := wt_bd (wt_lk 22 x1 σ)
    show ((wt_lk 22 x1 σ).toInt - (0 : Int32).toInt + 0).toNat < n
    omega
set_option maxRecDepth 100000 in
set_option maxHeartbeats 4000000 in
theorem wq_tg_firstLike (n : Nat) (hn : 4294967297 < n) (t0 : Nat) (x1 : Int32) (σ : wt_St) : wt_T (wp_tg_firstLike n t0 x1 σ) (fun q => q.2 = σ) := by
  unfold wp_tg_firstLike
  refine wt_T_bi (wq_ap_look n hn (t0 + 4) x1 σ) (fun r1 h2 => ?_)
  obtain ⟨e3, e3v⟩ := h2
  have e4 := wt_ceq e3v
  have bb5 := wt_bd (wt_lk (t0 + 4) x1 σ)
  have bb6 := wt_bd r1.1
  rw [e3]
  refine wt_T_bi (wq_ap_look n hn (t0 + 5) r1.1 σ) (fun r7 h8 => ?_)
  obtain ⟨e9, e9v⟩ := h8
  have e10 := wt_ceq e9v
  have bb11 := wt_bd (wt_lk (t0 + 5) r1.1 σ)
  have bb12 := wt_bd r7.1
  rw [e9]
  refine wt_T_some ?_
  exact rfl
set_option maxRecDepth 100000 in
set_option maxHeartbeats 4000000 in
theorem wq_rw_fitFrom_b (n : Nat) (hn : 4294967297 < n) (R : Int32 × Int32 × Int32 × Int32 × wt_St → Option (wt_St)) (x1 : Int32) (x2 : Int32) (x3 : Int32) (x4 : Int32) (σ : wt_St) (h0 : 0 ≤ x2.toInt) (hR : ∀ z : Int32 × Int32 × Int32 × Int32 × wt_St, 0 ≤ (z.2.1).toInt → (12 - (z.2.1).toInt).toNat < (12 - x2.toInt).toNat → wt_T (R z) (fun q => wt_fr (fun i k => (i = 81 ∧ k = 9)) (fun i => i = 85 ∨ i = 83 ∨ i = 84) z.2.2.2.2 q)) : wt_T (wp_rw_fitFrom_b n R x1 x2 x3 x4 σ) (fun q => wt_fr (fun i k => (i = 81 ∧ k = 9)) (fun i => i = 85 ∨ i = 83 ∨ i = 84) σ q) := by
  unfold wp_rw_fitFrom_b
  refine wt_T_bi (wq_tx_lengthOf n hn x1 σ) (fun r1 h2 => ?_)
  obtain ⟨e3, e3v⟩ := h2
  have e4 := wt_ceq e3v
  have bb5 := wt_bd (wt_lk 36 x1 σ)
  have bb6 := wt_bd r1.1
  rw [e3]
  have bb7 := wt_bd x2
  refine wt_T_if (fun h8 => ?_) (fun h8 => ?_)
  · skip
    have c9 := wt_cle h8
    unfold wp_rw_fitFrom_B18
    refine wt_T_bi (wq_ap_copyRow n hn 84 85 σ) (fun r10 h11 => ?_)
    have f12 := h11
    obtain ⟨σ13, eσ13⟩ : ∃ z : wt_St, z = wt_sf r10 81 9 x4 := ⟨_, rfl⟩
    rw [← eσ13]
    have fσ13 := wt_fr_sf eσ13
    have vσ13 := wt_ceq (wt_v_sf eσ13)
    refine wt_T_some ?_
    exact (wt_fr.tr (wt_fr.tr wt_fr.rf f12 (fun i k h => h.elim) (fun i h => by (try dsimp only at h); exact Or.inl (by first | exact h | omega))) fσ13 (fun i k h => by (try dsimp only at h); exact (by first | exact h | omega)) (fun i h => h.elim))
  · skip
    have c14 := wt_ncle h8
    have k15 : (12 : Int32).toInt = 12 := by decide
    refine wt_T_if (fun h16 => ?_) (fun h16 => ?_)
    · skip
      have c17 := wt_clt h16
      refine wt_T_bi (wq_tx_wordAt n hn x1 x2 σ) (fun r18 h19 => ?_)
      have e20 := h19
      rw [e20]
      have k26 : (0 : Int32).toInt = 0 := by decide
      refine wt_T_it (fun s : Int32 × wt_St => wt_fr (fun i k => (i = 81 ∧ k = 9)) (fun i => i = 83 ∨ i = 84 ∨ i = 85) σ s.2 ∧ 0 ≤ (s.1).toInt) (fun s : Int32 × wt_St => ((wt_lk2 (20 + 6) (20 + 4) r18.1 s.2).toInt - s.1.toInt + 0).toNat) (fun KK21 z22 I23 hKK21 => ?_) _ _ ?_ ?_
      · skip
        obtain ⟨l24, l25⟩ := I23
        unfold wp_rw_fitFrom_B50
        have bb27 := wt_bd (wt_lk2 (20 + 6) (20 + 4) r18.1 z22.2)
        have tt28 : (wt_lk2 (20 + 6) (20 + 4) r18.1 z22.2).toInt = (wt_lk2 (20 + 6) (20 + 4) r18.1 σ).toInt := congrArg Int32.toInt (wt_lk2_fr (l24.2 (20 + 6) (by (try dsimp only); omega)) (l24.2 (20 + 4) (by (try dsimp only); omega)))
        have bb29 := wt_bd (wt_lk2 (20 + 6) (20 + 4) r18.1 σ)
        have bb30 := wt_bd z22.1
        refine wt_T_bi (wq_tg_membersLike n hn 20 r18.1 z22.2) (fun r31 h32 => ?_)
        obtain ⟨e33, e33v⟩ := h32
        have e34 := wt_ceq e33v
        have bb35 := wt_bd r31.1
        rw [e33]
        refine wt_T_if (fun h36 => ?_) (fun h36 => ?_)
        · skip
          have c37 := wt_cle h36
          refine wt_T_some ?_
          exact (wt_fr.tr wt_fr.rf l24 (fun i k h => by (try dsimp only at h); exact (by first | exact h | omega)) (fun i h => by (try dsimp only at h); rcases h with h | h | h; exact Or.inr (Or.inl (by first | exact h | omega)); exact Or.inr (Or.inr (by first | exact h | omega)); exact Or.inl (by first | exact h | omega)))
        · skip
          have c38 := wt_ncle h36
          refine wt_T_bi (wq_tg_firstLike n hn 20 r18.1 z22.2) (fun r39 h40 => ?_)
          have e41 := h40
          rw [e41]
          refine wt_T_bi (wq_rw_priceOf n hn (r39.1 + z22.1) z22.2) (fun r42 h43 => ?_)
          have e44 := h43
          rw [e44]
          refine wt_T_bi (wq_rw_mayFollow n hn x3 (r39.1 + z22.1) z22.2) (fun r45 h46 => ?_)
          have e47 := h46
          rw [e47]
          have bb48 := wt_bd r45.1
          refine wt_T_if (fun h49 => ?_) (fun h49 => ?_)
          · skip
            have c50 := wt_ceq h49
            unfold wp_rw_fitFrom_B156
            refine hKK21 _ ⟨(wt_fr.tr wt_fr.rf l24 (fun i k h => by (try dsimp only at h); exact (by first | exact h | omega)) (fun i h => by (try dsimp only at h); rcases h with h | h | h; exact Or.inl (by first | exact h | omega); exact Or.inr (Or.inl (by first | exact h | omega)); exact Or.inr (Or.inr (by first | exact h | omega)))), (wt_nn (B := wt_lk2 (20 + 6) (20 + 4) r18.1 z22.2) (by omega) (by omega))⟩ ?_
            show ((wt_lk2 (20 + 6) (20 + 4) r18.1 z22.2).toInt - (z22.1 + (1 : Int32)).toInt + 0).toNat < ((wt_lk2 (20 + 6) (20 + 4) r18.1 z22.2).toInt - z22.1.toInt + 0).toNat
            exact wt_mu (by omega) (by omega)
          · skip
            have c51 := wt_nceq h49
            have bb52 := wt_bd (wt_gf z22.2 81 9)
            refine wt_T_if (fun h53 => ?_) (fun h53 => ?_)
            · skip
              have c54 := wt_ceq h53
              rw [wt_lm1] at c54
              unfold wp_rw_fitFrom_B116
              refine wt_T_bi (wq_rw_spend n hn (r39.1 + z22.1) (1 : Int32) z22.2) (fun r55 h56 => ?_)
              have f57 := h56
              have bb58 := wt_bd r55.1
              refine wt_T_if (fun h59 => ?_) (fun h59 => ?_)
              · skip
                have c60 := wt_ceq h59
                unfold wp_rw_fitFrom_B148
                refine wt_T_bi (wq_rw_spend n hn (r39.1 + z22.1) (-1 : Int32) r55.2) (fun r61 h62 => ?_)
                have f63 := h62
                unfold wp_rw_fitFrom_B156
                have bb64 := wt_bd (wt_lk2 (20 + 6) (20 + 4) r18.1 r61.2)
                have tt65 : (wt_lk2 (20 + 6) (20 + 4) r18.1 r61.2).toInt = (wt_lk2 (20 + 6) (20 + 4) r18.1 r55.2).toInt := congrArg Int32.toInt (wt_lk2_fr (f63.2 (20 + 6) (by (try dsimp only); omega)) (f63.2 (20 + 4) (by (try dsimp only); omega)))
                have bb66 := wt_bd (wt_lk2 (20 + 6) (20 + 4) r18.1 r55.2)
                have tt67 : (wt_lk2 (20 + 6) (20 + 4) r18.1 r55.2).toInt = (wt_lk2 (20 + 6) (20 + 4) r18.1 z22.2).toInt := congrArg Int32.toInt (wt_lk2_fr (f57.2 (20 + 6) (by (try dsimp only); omega)) (f57.2 (20 + 4) (by (try dsimp only); omega)))
                refine hKK21 _ ⟨(wt_fr.tr (wt_fr.tr (wt_fr.tr wt_fr.rf l24 (fun i k h => by (try dsimp only at h); exact (by first | exact h | omega)) (fun i h => by (try dsimp only at h); rcases h with h | h | h; exact Or.inl (by first | exact h | omega); exact Or.inr (Or.inl (by first | exact h | omega)); exact Or.inr (Or.inr (by first | exact h | omega)))) f57 (fun i k h => h.elim) (fun i h => by (try dsimp only at h); exact Or.inl (by first | exact h | omega))) f63 (fun i k h => h.elim) (fun i h => by (try dsimp only at h); exact Or.inl (by first | exact h | omega))), (wt_nn (B := wt_lk2 (20 + 6) (20 + 4) r18.1 z22.2) (by omega) (by omega))⟩ ?_
                show ((wt_lk2 (20 + 6) (20 + 4) r18.1 r61.2).toInt - (z22.1 + (1 : Int32)).toInt + 0).toNat < ((wt_lk2 (20 + 6) (20 + 4) r18.1 z22.2).toInt - z22.1.toInt + 0).toNat
                exact wt_mu (by omega) (by omega)
              · skip
                have c68 := wt_nceq h59
                refine wt_T_bi (wq_ap_put n hn 84 x2 (r39.1 + z22.1) r55.2) (fun r69 h70 => ?_)
                have f71 := h70
                refine wt_T_bi (hR (x1, x2 + (1 : Int32), r39.1 + z22.1, x4 + r42.1, r69) (show 0 ≤ (x2 + (1 : Int32)).toInt by rw [wt_i1 (by omega)]; omega) (show (12 - (x2 + (1 : Int32)).toInt).toNat < (12 - (x2).toInt).toNat by rw [wt_i1 (by omega)]; omega)) (fun r73 h72 => ?_)
                have f74 : wt_fr (fun i k => (i = 81 ∧ k = 9)) (fun i => i = 85 ∨ i = 83 ∨ i = 84) r69 r73 := h72
                unfold wp_rw_fitFrom_B148
                refine wt_T_bi (wq_rw_spend n hn (r39.1 + z22.1) (-1 : Int32) r73) (fun r75 h76 => ?_)
                have f77 := h76
                unfold wp_rw_fitFrom_B156
                have bb78 := wt_bd (wt_lk2 (20 + 6) (20 + 4) r18.1 r75.2)
                have tt79 : (wt_lk2 (20 + 6) (20 + 4) r18.1 r75.2).toInt = (wt_lk2 (20 + 6) (20 + 4) r18.1 r73).toInt := congrArg Int32.toInt (wt_lk2_fr (f77.2 (20 + 6) (by (try dsimp only); omega)) (f77.2 (20 + 4) (by (try dsimp only); omega)))
                have bb80 := wt_bd (wt_lk2 (20 + 6) (20 + 4) r18.1 r73)
                have tt81 : (wt_lk2 (20 + 6) (20 + 4) r18.1 r73).toInt = (wt_lk2 (20 + 6) (20 + 4) r18.1 r69).toInt := congrArg Int32.toInt (wt_lk2_fr (f74.2 (20 + 6) (by (try dsimp only); omega)) (f74.2 (20 + 4) (by (try dsimp only); omega)))
                have bb82 := wt_bd (wt_lk2 (20 + 6) (20 + 4) r18.1 r69)
                have tt83 : (wt_lk2 (20 + 6) (20 + 4) r18.1 r69).toInt = (wt_lk2 (20 + 6) (20 + 4) r18.1 r55.2).toInt := congrArg Int32.toInt (wt_lk2_fr (f71.2 (20 + 6) (by (try dsimp only); omega)) (f71.2 (20 + 4) (by (try dsimp only); omega)))
                have bb84 := wt_bd (wt_lk2 (20 + 6) (20 + 4) r18.1 r55.2)
                have tt85 : (wt_lk2 (20 + 6) (20 + 4) r18.1 r55.2).toInt = (wt_lk2 (20 + 6) (20 + 4) r18.1 z22.2).toInt := congrArg Int32.toInt (wt_lk2_fr (f57.2 (20 + 6) (by (try dsimp only); omega)) (f57.2 (20 + 4) (by (try dsimp only); omega)))
                refine hKK21 _ ⟨(wt_fr.tr (wt_fr.tr (wt_fr.tr (wt_fr.tr (wt_fr.tr wt_fr.rf l24 (fun i k h => by (try dsimp only at h); exact (by first | exact h | omega)) (fun i h => by (try dsimp only at h); rcases h with h | h | h; exact Or.inl (by first | exact h | omega); exact Or.inr (Or.inl (by first | exact h | omega)); exact Or.inr (Or.inr (by first | exact h | omega)))) f57 (fun i k h => h.elim) (fun i h => by (try dsimp only at h); exact Or.inl (by first | exact h | omega))) f71 (fun i k h => h.elim) (fun i h => by (try dsimp only at h); exact Or.inr (Or.inl (by first | exact h | omega)))) f74 (fun i k h => by (try dsimp only at h); exact (by first | exact h | omega)) (fun i h => by (try dsimp only at h); rcases h with h | h | h; exact Or.inr (Or.inr (by first | exact h | omega)); exact Or.inl (by first | exact h | omega); exact Or.inr (Or.inl (by first | exact h | omega)))) f77 (fun i k h => h.elim) (fun i h => by (try dsimp only at h); exact Or.inl (by first | exact h | omega))), (wt_nn (B := wt_lk2 (20 + 6) (20 + 4) r18.1 z22.2) (by omega) (by omega))⟩ ?_
                show ((wt_lk2 (20 + 6) (20 + 4) r18.1 r75.2).toInt - (z22.1 + (1 : Int32)).toInt + 0).toNat < ((wt_lk2 (20 + 6) (20 + 4) r18.1 z22.2).toInt - z22.1.toInt + 0).toNat
                exact wt_mu (by omega) (by omega)
            · skip
              have c86 := wt_nceq h53
              rw [wt_lm1] at c86
              have bb87 := wt_bd x4
              have bb88 := wt_bd r42.1
              obtain ⟨j89, j89a, j89b⟩ := wt_addI x4 r42.1
              refine wt_T_if (fun h90 => ?_) (fun h90 => ?_)
              · skip
                have c91 := wt_cle h90
                unfold wp_rw_fitFrom_B156
                refine hKK21 _ ⟨(wt_fr.tr wt_fr.rf l24 (fun i k h => by (try dsimp only at h); exact (by first | exact h | omega)) (fun i h => by (try dsimp only at h); rcases h with h | h | h; exact Or.inl (by first | exact h | omega); exact Or.inr (Or.inl (by first | exact h | omega)); exact Or.inr (Or.inr (by first | exact h | omega)))), (wt_nn (B := wt_lk2 (20 + 6) (20 + 4) r18.1 z22.2) (by omega) (by omega))⟩ ?_
                show ((wt_lk2 (20 + 6) (20 + 4) r18.1 z22.2).toInt - (z22.1 + (1 : Int32)).toInt + 0).toNat < ((wt_lk2 (20 + 6) (20 + 4) r18.1 z22.2).toInt - z22.1.toInt + 0).toNat
                exact wt_mu (by omega) (by omega)
              · skip
                have c92 := wt_ncle h90
                unfold wp_rw_fitFrom_B116
                refine wt_T_bi (wq_rw_spend n hn (r39.1 + z22.1) (1 : Int32) z22.2) (fun r93 h94 => ?_)
                have f95 := h94
                have bb96 := wt_bd r93.1
                refine wt_T_if (fun h97 => ?_) (fun h97 => ?_)
                · skip
                  have c98 := wt_ceq h97
                  unfold wp_rw_fitFrom_B148
                  refine wt_T_bi (wq_rw_spend n hn (r39.1 + z22.1) (-1 : Int32) r93.2) (fun r99 h100 => ?_)
                  have f101 := h100
                  unfold wp_rw_fitFrom_B156
                  have bb102 := wt_bd (wt_lk2 (20 + 6) (20 + 4) r18.1 r99.2)
                  have tt103 : (wt_lk2 (20 + 6) (20 + 4) r18.1 r99.2).toInt = (wt_lk2 (20 + 6) (20 + 4) r18.1 r93.2).toInt := congrArg Int32.toInt (wt_lk2_fr (f101.2 (20 + 6) (by (try dsimp only); omega)) (f101.2 (20 + 4) (by (try dsimp only); omega)))
                  have bb104 := wt_bd (wt_lk2 (20 + 6) (20 + 4) r18.1 r93.2)
                  have tt105 : (wt_lk2 (20 + 6) (20 + 4) r18.1 r93.2).toInt = (wt_lk2 (20 + 6) (20 + 4) r18.1 z22.2).toInt := congrArg Int32.toInt (wt_lk2_fr (f95.2 (20 + 6) (by (try dsimp only); omega)) (f95.2 (20 + 4) (by (try dsimp only); omega)))
                  refine hKK21 _ ⟨(wt_fr.tr (wt_fr.tr (wt_fr.tr wt_fr.rf l24 (fun i k h => by (try dsimp only at h); exact (by first | exact h | omega)) (fun i h => by (try dsimp only at h); rcases h with h | h | h; exact Or.inl (by first | exact h | omega); exact Or.inr (Or.inl (by first | exact h | omega)); exact Or.inr (Or.inr (by first | exact h | omega)))) f95 (fun i k h => h.elim) (fun i h => by (try dsimp only at h); exact Or.inl (by first | exact h | omega))) f101 (fun i k h => h.elim) (fun i h => by (try dsimp only at h); exact Or.inl (by first | exact h | omega))), (wt_nn (B := wt_lk2 (20 + 6) (20 + 4) r18.1 z22.2) (by omega) (by omega))⟩ ?_
                  show ((wt_lk2 (20 + 6) (20 + 4) r18.1 r99.2).toInt - (z22.1 + (1 : Int32)).toInt + 0).toNat < ((wt_lk2 (20 + 6) (20 + 4) r18.1 z22.2).toInt - z22.1.toInt + 0).toNat
                  exact wt_mu (by omega) (by omega)
                · skip
                  have c106 := wt_nceq h97
                  refine wt_T_bi (wq_ap_put n hn 84 x2 (r39.1 + z22.1) r93.2) (fun r107 h108 => ?_)
                  have f109 := h108
                  refine wt_T_bi (hR (x1, x2 + (1 : Int32), r39.1 + z22.1, x4 + r42.1, r107) (show 0 ≤ (x2 + (1 : Int32)).toInt by rw [wt_i1 (by omega)]; omega) (show (12 - (x2 + (1 : Int32)).toInt).toNat < (12 - (x2).toInt).toNat by rw [wt_i1 (by omega)]; omega)) (fun r111 h110 => ?_)
                  have f112 : wt_fr (fun i k => (i = 81 ∧ k = 9)) (fun i => i = 85 ∨ i = 83 ∨ i = 84) r107 r111 := h110
                  unfold wp_rw_fitFrom_B148
                  refine wt_T_bi (wq_rw_spend n hn (r39.1 + z22.1) (-1 : Int32) r111) (fun r113 h114 => ?_)
                  have f115 := h114
                  unfold wp_rw_fitFrom_B156
                  have bb116 := wt_bd (wt_lk2 (20 + 6) (20 + 4) r18.1 r113.2)
                  have tt117 : (wt_lk2 (20 + 6) (20 + 4) r18.1 r113.2).toInt = (wt_lk2 (20 + 6) (20 + 4) r18.1 r111).toInt := congrArg Int32.toInt (wt_lk2_fr (f115.2 (20 + 6) (by (try dsimp only); omega)) (f115.2 (20 + 4) (by (try dsimp only); omega)))
                  have bb118 := wt_bd (wt_lk2 (20 + 6) (20 + 4) r18.1 r111)
                  have tt119 : (wt_lk2 (20 + 6) (20 + 4) r18.1 r111).toInt = (wt_lk2 (20 + 6) (20 + 4) r18.1 r107).toInt := congrArg Int32.toInt (wt_lk2_fr (f112.2 (20 + 6) (by (try dsimp only); omega)) (f112.2 (20 + 4) (by (try dsimp only); omega)))
                  have bb120 := wt_bd (wt_lk2 (20 + 6) (20 + 4) r18.1 r107)
                  have tt121 : (wt_lk2 (20 + 6) (20 + 4) r18.1 r107).toInt = (wt_lk2 (20 + 6) (20 + 4) r18.1 r93.2).toInt := congrArg Int32.toInt (wt_lk2_fr (f109.2 (20 + 6) (by (try dsimp only); omega)) (f109.2 (20 + 4) (by (try dsimp only); omega)))
                  have bb122 := wt_bd (wt_lk2 (20 + 6) (20 + 4) r18.1 r93.2)
                  have tt123 : (wt_lk2 (20 + 6) (20 + 4) r18.1 r93.2).toInt = (wt_lk2 (20 + 6) (20 + 4) r18.1 z22.2).toInt := congrArg Int32.toInt (wt_lk2_fr (f95.2 (20 + 6) (by (try dsimp only); omega)) (f95.2 (20 + 4) (by (try dsimp only); omega)))
                  refine hKK21 _ ⟨(wt_fr.tr (wt_fr.tr (wt_fr.tr (wt_fr.tr (wt_fr.tr wt_fr.rf l24 (fun i k h => by (try dsimp only at h); exact (by first | exact h | omega)) (fun i h => by (try dsimp only at h); rcases h with h | h | h; exact Or.inl (by first | exact h | omega); exact Or.inr (Or.inl (by first | exact h | omega)); exact Or.inr (Or.inr (by first | exact h | omega)))) f95 (fun i k h => h.elim) (fun i h => by (try dsimp only at h); exact Or.inl (by first | exact h | omega))) f109 (fun i k h => h.elim) (fun i h => by (try dsimp only at h); exact Or.inr (Or.inl (by first | exact h | omega)))) f112 (fun i k h => by (try dsimp only at h); exact (by first | exact h | omega)) (fun i h => by (try dsimp only at h); rcases h with h | h | h; exact Or.inr (Or.inr (by first | exact h | omega)); exact Or.inl (by first | exact h | omega); exact Or.inr (Or.inl (by first | exact h | omega)))) f115 (fun i k h => h.elim) (fun i h => by (try dsimp only at h); exact Or.inl (by first | exact h | omega))), (wt_nn (B := wt_lk2 (20 + 6) (20 + 4) r18.1 z22.2) (by omega) (by omega))⟩ ?_
                  show ((wt_lk2 (20 + 6) (20 + 4) r18.1 r113.2).toInt - (z22.1 + (1 : Int32)).toInt + 0).toNat < ((wt_lk2 (20 + 6) (20 + 4) r18.1 z22.2).toInt - z22.1.toInt + 0).toNat
                  exact wt_mu (by omega) (by omega)
      · skip
        have bb124 := wt_bd (wt_lk2 (20 + 6) (20 + 4) r18.1 σ)
        exact ⟨wt_fr.rf, (show 0 ≤ ((0 : Int32)).toInt by omega)⟩
      · skip
        have bb125 := wt_bd (wt_lk2 (20 + 6) (20 + 4) r18.1 σ)
        show ((wt_lk2 (20 + 6) (20 + 4) r18.1 σ).toInt - (0 : Int32).toInt + 0).toNat < n
        omega
    · skip
      have c126 := wt_ncl h16
      unfold wp_rw_fitFrom_B18
      refine wt_T_bi (wq_ap_copyRow n hn 84 85 σ) (fun r127 h128 => ?_)
      have f129 := h128
      obtain ⟨σ130, eσ130⟩ : ∃ z : wt_St, z = wt_sf r127 81 9 x4 := ⟨_, rfl⟩
      rw [← eσ130]
      have fσ130 := wt_fr_sf eσ130
      have vσ130 := wt_ceq (wt_v_sf eσ130)
      refine wt_T_some ?_
      exact (wt_fr.tr (wt_fr.tr wt_fr.rf f129 (fun i k h => h.elim) (fun i h => by (try dsimp only at h); exact Or.inl (by first | exact h | omega))) fσ130 (fun i k h => by (try dsimp only at h); exact (by first | exact h | omega)) (fun i h => h.elim))
set_option maxRecDepth 100000 in
theorem wq_rw_fitFrom (n : Nat) (hn : 4294967297 < n) (x1 : Int32) (x2 : Int32) (x3 : Int32) (x4 : Int32) (σ : wt_St) (h0 : 0 ≤ x2.toInt) (hb : x2.toInt ≤ 12) : wt_T (wp_rw_fitFrom n x1 x2 x3 x4 σ) (fun q => wt_fr (fun i k => (i = 81 ∧ k = 9)) (fun i => i = 85 ∨ i = 83 ∨ i = 84) σ q) := by
  unfold wp_rw_fitFrom
  refine wt_T_rec (fun z : Int32 × Int32 × Int32 × Int32 × wt_St => 0 ≤ (z.2.1).toInt) (fun z : Int32 × Int32 × Int32 × Int32 × wt_St => (12 - (z.2.1).toInt).toNat) (fun (z : Int32 × Int32 × Int32 × Int32 × wt_St) (q : wt_St) => wt_fr (fun i k => (i = 81 ∧ k = 9)) (fun i => i = 85 ∨ i = 83 ∨ i = 84) z.2.2.2.2 q) (fun R z hI hR => ?_) 16 _ h0 (show (12 - x2.toInt).toNat < 16 by omega)
  exact wq_rw_fitFrom_b n hn R z.1 z.2.1 z.2.2.1 z.2.2.2.1 z.2.2.2.2 hI hR
set_option maxRecDepth 100000 in
set_option maxHeartbeats 4000000 in
theorem wq_rw_findFitting (n : Nat) (hn : 4294967297 < n) (x1 : Int32) (x2 : Int32) (σ : wt_St) : wt_T (wp_rw_findFitting n x1 x2 σ) (fun q => wt_fr (fun i k => (i = 81 ∧ k = 9)) (fun i => i = 85 ∨ i = 83 ∨ i = 84) σ q) := by
  unfold wp_rw_findFitting
  have k6 : (0 : Int32).toInt = 0 := by decide
  refine wt_T_it (fun s : Int32 × wt_St => wt_fr (fun i k => False) (fun i => i = 83) σ s.2 ∧ 0 ≤ (s.1).toInt) (fun s : Int32 × wt_St => ((26 : Int32).toInt - s.1.toInt + 0).toNat) (fun KK1 z2 I3 hKK1 => ?_) _ _ ?_ ?_
  · skip
    obtain ⟨l4, l5⟩ := I3
    unfold wp_rw_findFitting_B2
    have k7 : (26 : Int32).toInt = 26 := by decide
    have bb8 := wt_bd z2.1
    refine wt_T_if (fun h9 => ?_) (fun h9 => ?_)
    · skip
      have c10 := wt_cle h9
      obtain ⟨σ11, eσ11⟩ : ∃ z : wt_St, z = wt_sf z2.2 81 9 (-1 : Int32) := ⟨_, rfl⟩
      rw [← eσ11]
      have fσ11 := wt_fr_sf eσ11
      have vσ11 := wt_ceq (wt_v_sf eσ11)
      refine wt_T_bi (wq_rw_fitFrom n hn x1 (0 : Int32) (-1 : Int32) (0 : Int32) σ11 (by decide) (by decide)) (fun r12 h13 => ?_)
      have f14 := h13
      refine wt_T_some ?_
      exact (wt_fr.tr (wt_fr.tr (wt_fr.tr wt_fr.rf l4 (fun i k h => h.elim) (fun i h => by (try dsimp only at h); exact Or.inr (Or.inl (by first | exact h | omega)))) fσ11 (fun i k h => by (try dsimp only at h); exact (by first | exact h | omega)) (fun i h => h.elim)) f14 (fun i k h => by (try dsimp only at h); exact (by first | exact h | omega)) (fun i h => by (try dsimp only at h); rcases h with h | h | h; exact Or.inl (by first | exact h | omega); exact Or.inr (Or.inl (by first | exact h | omega)); exact Or.inr (Or.inr (by first | exact h | omega))))
    · skip
      have c15 := wt_ncle h9
      refine wt_T_bi (wq_sk_ready n hn 40 z2.1 x2 z2.2) (fun r16 h17 => ?_)
      have e18 := h17
      rw [e18]
      refine wt_T_gd (wt_ix (by omega) (by omega)) ?_
      obtain ⟨σ19, eσ19⟩ : ∃ z : wt_St, z = wt_sa z2.2 83 (Int32.toNatClampNeg z2.1) r16.1 := ⟨_, rfl⟩
      rw [← eσ19]
      have fσ19 := wt_fr_sa eσ19
      have vσ19 := wt_ceq (wt_v_sa eσ19)
      refine hKK1 _ ⟨(wt_fr.tr (wt_fr.tr wt_fr.rf l4 (fun i k h => h.elim) (fun i h => by (try dsimp only at h); exact (by first | exact h | omega))) fσ19 (fun i k h => h.elim) (fun i h => by (try dsimp only at h); exact (by first | exact h | omega))), (wt_nn (B := (26 : Int32)) (by omega) (by omega))⟩ ?_
      show ((26 : Int32).toInt - (z2.1 + (1 : Int32)).toInt + 0).toNat < ((26 : Int32).toInt - z2.1.toInt + 0).toNat
      exact wt_mu (by omega) (by omega)
  · skip
    have k20 : (26 : Int32).toInt = 26 := by decide
    exact ⟨wt_fr.rf, (show 0 ≤ ((0 : Int32)).toInt by omega)⟩
  · skip
    have k21 : (26 : Int32).toInt = 26 := by decide
    show ((26 : Int32).toInt - (0 : Int32).toInt + 0).toNat < n
    omega
set_option maxRecDepth 100000 in
set_option maxHeartbeats 4000000 in
theorem wq_rw_found (n : Nat) (hn : 4294967297 < n) (x1 : Int32) (x2 : Int32) (x3 : Int32) (σ : wt_St) : wt_T (wp_rw_found n x1 x2 x3 σ) (fun q => q.2 = σ) := by
  unfold wp_rw_found
  have bb1 := wt_bd (wt_gf σ 81 9)
  refine wt_T_if (fun h2 => ?_) (fun h2 => ?_)
  · skip
    have c3 := wt_ceq h2
    rw [wt_lm1] at c3
    unfold wp_rw_found_B12
    refine wt_T_some ?_
    exact rfl
  · skip
    have c4 := wt_nceq h2
    rw [wt_lm1] at c4
    have bb5 := wt_bd x3
    have k6 : (0 : Int32).toInt = 0 := by decide
    refine wt_T_if (fun h7 => ?_) (fun h7 => ?_)
    · skip
      have c8 := wt_ceq h7
      unfold wp_rw_found_B12
      refine wt_T_some ?_
      exact rfl
    · skip
      have c9 := wt_nceq h7
      have bb10 := wt_bd x2
      refine wt_T_if (fun h11 => ?_) (fun h11 => ?_)
      · skip
        have c12 := wt_clt h11
        refine wt_T_some ?_
        exact rfl
      · skip
        have c13 := wt_ncl h11
        refine wt_T_bi (wq_tx_lengthOf n hn x1 σ) (fun r14 h15 => ?_)
        obtain ⟨e16, e16v⟩ := h15
        have e17 := wt_ceq e16v
        have bb18 := wt_bd (wt_lk 36 x1 σ)
        have bb19 := wt_bd r14.1
        rw [e16]
        refine wt_T_if (fun h20 => ?_) (fun h20 => ?_)
        · skip
          have c21 := wt_cle h20
          refine wt_T_some ?_
          exact rfl
        · skip
          have c22 := wt_ncle h20
          refine wt_T_bi (wq_ap_look n hn 85 x2 σ) (fun r23 h24 => ?_)
          obtain ⟨e25, e25v⟩ := h24
          have e26 := wt_ceq e25v
          have bb27 := wt_bd (wt_lk 85 x2 σ)
          have bb28 := wt_bd r23.1
          rw [e25]
          refine wt_T_some ?_
          exact rfl
set_option maxRecDepth 100000 in
set_option maxHeartbeats 4000000 in
theorem wq_rw_tooMany (n : Nat) (hn : 4294967297 < n) (x1 : Int32) (σ : wt_St) : wt_T (wp_rw_tooMany n x1 σ) (fun q => q.2 = σ) := by
  unfold wp_rw_tooMany
  have k6 : (0 : Int32).toInt = 0 := by decide
  refine wt_T_it (fun s : Int32 × Int32 × wt_St => s.2.2 = σ ∧ 0 ≤ (s.2.1).toInt) (fun s : Int32 × Int32 × wt_St => ((wt_lk 36 x1 s.2.2).toInt - s.2.1.toInt + 0).toNat) (fun KK1 z2 I3 hKK1 => ?_) _ _ ?_ ?_
  · skip
    obtain ⟨l4, l5⟩ := I3
    unfold wp_rw_tooMany_B4
    rw [l4]
    have bb7 := wt_bd (wt_lk 36 x1 σ)
    have bb8 := wt_bd z2.2.1
    refine wt_T_bi (wq_tx_lengthOf n hn x1 σ) (fun r9 h10 => ?_)
    obtain ⟨e11, e11v⟩ := h10
    have e12 := wt_ceq e11v
    have bb13 := wt_bd r9.1
    rw [e11]
    refine wt_T_if (fun h14 => ?_) (fun h14 => ?_)
    · skip
      have c15 := wt_cle h14
      refine wt_T_some ?_
      exact rfl
    · skip
      have c16 := wt_ncle h14
      refine wt_T_bi (wq_tx_wordAt n hn x1 z2.2.1 σ) (fun r17 h18 => ?_)
      have e19 := h18
      rw [e19]
      refine wt_T_bi (wq_tg_membersLike n hn 20 r17.1 σ) (fun r20 h21 => ?_)
      obtain ⟨e22, e22v⟩ := h21
      have e23 := wt_ceq e22v
      have bb24 := wt_bd (wt_lk2 (20 + 6) (20 + 4) r17.1 σ)
      have bb25 := wt_bd r20.1
      rw [e22]
      have bb26 := wt_bd z2.1
      obtain ⟨j27, j27a, j27b⟩ := wt_mulI z2.1 r20.1
      have k28 : (4096 : Int32).toInt = 4096 := by decide
      refine wt_T_if (fun h29 => ?_) (fun h29 => ?_)
      · skip
        have c30 := wt_cle h29
        refine hKK1 _ ⟨rfl, (wt_nn (B := wt_lk 36 x1 z2.2.2) (by omega) (by first | (rw [l4]; omega) | (rw [l4]; done) | omega))⟩ ?_
        show ((wt_lk 36 x1 σ).toInt - (z2.2.1 + (1 : Int32)).toInt + 0).toNat < ((wt_lk 36 x1 z2.2.2).toInt - z2.2.1.toInt + 0).toNat
        exact wt_mu (by first | (rw [l4]; omega) | (rw [l4]; done) | omega) (by first | (rw [l4]; omega) | (rw [l4]; done) | omega)
      · skip
        have c31 := wt_ncle h29
        refine wt_T_some ?_
        exact rfl
  · skip
    have bb32 := wt_bd (wt_lk 36 x1 σ)
    exact ⟨rfl, (show 0 ≤ ((0 : Int32)).toInt by omega)⟩
  · skip
    have bb33 := wt_bd (wt_lk 36 x1 σ)
    show ((wt_lk 36 x1 σ).toInt - (0 : Int32).toInt + 0).toNat < n
    omega
set_option maxRecDepth 100000 in
set_option maxHeartbeats 4000000 in
theorem wq_ap_forget (n : Nat) (hn : 4294967297 < n) (σ : wt_St) : wt_T (wp_ap_forget n σ) (fun q => wt_fr (fun i k => (i = 39 ∧ k = 8)) (fun i => False) σ q.2) := by
  unfold wp_ap_forget
  obtain ⟨σ1, eσ1⟩ : ∃ z : wt_St, z = wt_sf σ 39 8 (0 : Int32) := ⟨_, rfl⟩
  rw [← eσ1]
  have fσ1 := wt_fr_sf eσ1
  have vσ1 := wt_ceq (wt_v_sf eσ1)
  refine wt_T_some ?_
  exact (wt_fr.tr wt_fr.rf fσ1 (fun i k h => by (try dsimp only at h); exact (by first | exact h | omega)) (fun i h => h.elim))
set_option maxRecDepth 100000 in
set_option maxHeartbeats 4000000 in
theorem wq_wk_printGreedily (n : Nat) (hn : 4294967297 < n) (x1 : Int32) (σ : wt_St) : wt_T (wp_wk_printGreedily n x1 σ) (fun q => wt_fr (fun i k => (i = 86 ∧ k = 8) ∨ (i = 86 ∧ k = 9)) (fun i => i = 99 ∨ i = 98 ∨ i = 100) σ q) := by
  unfold wp_wk_printGreedily
  refine wt_T_bi (wq_wk_startGreedy n hn σ) (fun r1 h2 => ?_)
  have f3 := h2
  have k9 : (0 : Int32).toInt = 0 := by decide
  refine wt_T_it (fun s : Int32 × wt_St => wt_fr (fun i k => (i = 86 ∧ k = 8) ∨ (i = 86 ∧ k = 9)) (fun i => i = 100 ∨ i = 98) r1 s.2 ∧ 0 ≤ (s.1).toInt) (fun s : Int32 × wt_St => ((wt_gf s.2 39 8).toInt - s.1.toInt + 0).toNat) (fun KK4 z5 I6 hKK4 => ?_) _ _ ?_ ?_
  · skip
    obtain ⟨l7, l8⟩ := I6
    unfold wp_wk_printGreedily_B6
    have bb10 := wt_bd (wt_gf z5.2 39 8)
    have tt11 : (wt_gf z5.2 39 8).toInt = (wt_gf r1 39 8).toInt := congrArg Int32.toInt (l7.1 39 8 (by (try dsimp only); omega))
    have bb12 := wt_bd (wt_gf r1 39 8)
    have tt13 : (wt_gf r1 39 8).toInt = (wt_gf σ 39 8).toInt := congrArg Int32.toInt (f3.1 39 8 (by (try dsimp only); omega))
    have bb14 := wt_bd (wt_gf σ 39 8)
    have bb15 := wt_bd z5.1
    refine wt_T_if (fun h16 => ?_) (fun h16 => ?_)
    · skip
      have c17 := wt_cle h16
      refine wt_T_some ?_
      exact (wt_fr.tr (wt_fr.tr wt_fr.rf f3 (fun i k h => by (try dsimp only at h); rcases h with h | h; exact Or.inl (by first | exact h | omega); exact Or.inr (by first | exact h | omega)) (fun i h => by (try dsimp only at h); rcases h with h | h; exact Or.inl (by first | exact h | omega); exact Or.inr (Or.inl (by first | exact h | omega)))) l7 (fun i k h => by (try dsimp only at h); rcases h with h | h; exact Or.inl (by first | exact h | omega); exact Or.inr (by first | exact h | omega)) (fun i h => by (try dsimp only at h); rcases h with h | h; exact Or.inr (Or.inr (by first | exact h | omega)); exact Or.inr (Or.inl (by first | exact h | omega))))
    · skip
      have c18 := wt_ncle h16
      refine wt_T_bi (wq_ap_look n hn 99 z5.1 z5.2) (fun r19 h20 => ?_)
      obtain ⟨e21, e21v⟩ := h20
      have e22 := wt_ceq e21v
      have bb23 := wt_bd (wt_lk 99 z5.1 z5.2)
      have bb24 := wt_bd r19.1
      rw [e21]
      refine wt_T_bi (wq_ap_look n hn 46 r19.1 z5.2) (fun r25 h26 => ?_)
      obtain ⟨e27, e27v⟩ := h26
      have e28 := wt_ceq e27v
      have bb29 := wt_bd (wt_lk 46 r19.1 z5.2)
      have bb30 := wt_bd r25.1
      rw [e27]
      have bb31 := wt_bd x1
      refine wt_T_if (fun h32 => ?_) (fun h32 => ?_)
      · skip
        have c33 := wt_cle h32
        unfold wp_wk_printGreedily_B46
        refine hKK4 _ ⟨(wt_fr.tr wt_fr.rf l7 (fun i k h => by (try dsimp only at h); rcases h with h | h; exact Or.inl (by first | exact h | omega); exact Or.inr (by first | exact h | omega)) (fun i h => by (try dsimp only at h); rcases h with h | h; exact Or.inl (by first | exact h | omega); exact Or.inr (by first | exact h | omega))), (wt_nn (B := wt_gf z5.2 39 8) (by omega) (by omega))⟩ ?_
        show ((wt_gf z5.2 39 8).toInt - (z5.1 + (1 : Int32)).toInt + 0).toNat < ((wt_gf z5.2 39 8).toInt - z5.1.toInt + 0).toNat
        exact wt_mu (by omega) (by omega)
      · skip
        have c34 := wt_ncle h32
        refine wt_T_bi (wq_wk_printNext n hn r19.1 z5.2) (fun r35 h36 => ?_)
        have f37 := h36
        unfold wp_wk_printGreedily_B46
        have bb38 := wt_bd (wt_gf r35 39 8)
        have tt39 : (wt_gf r35 39 8).toInt = (wt_gf z5.2 39 8).toInt := congrArg Int32.toInt (f37.1 39 8 (by (try dsimp only); omega))
        refine hKK4 _ ⟨(wt_fr.tr (wt_fr.tr wt_fr.rf l7 (fun i k h => by (try dsimp only at h); rcases h with h | h; exact Or.inl (by first | exact h | omega); exact Or.inr (by first | exact h | omega)) (fun i h => by (try dsimp only at h); rcases h with h | h; exact Or.inl (by first | exact h | omega); exact Or.inr (by first | exact h | omega))) f37 (fun i k h => by (try dsimp only at h); rcases h with h | h; exact Or.inl (by first | exact h | omega); exact Or.inr (by first | exact h | omega)) (fun i h => by (try dsimp only at h); rcases h with h | h; exact Or.inl (by first | exact h | omega); exact Or.inr (by first | exact h | omega))), (wt_nn (B := wt_gf z5.2 39 8) (by omega) (by omega))⟩ ?_
        show ((wt_gf r35 39 8).toInt - (z5.1 + (1 : Int32)).toInt + 0).toNat < ((wt_gf z5.2 39 8).toInt - z5.1.toInt + 0).toNat
        exact wt_mu (by omega) (by omega)
  · skip
    have bb40 := wt_bd (wt_gf r1 39 8)
    have tt41 : (wt_gf r1 39 8).toInt = (wt_gf σ 39 8).toInt := congrArg Int32.toInt (f3.1 39 8 (by (try dsimp only); omega))
    have bb42 := wt_bd (wt_gf σ 39 8)
    exact ⟨wt_fr.rf, (show 0 ≤ ((0 : Int32)).toInt by omega)⟩
  · skip
    have bb43 := wt_bd (wt_gf r1 39 8)
    have tt44 : (wt_gf r1 39 8).toInt = (wt_gf σ 39 8).toInt := congrArg Int32.toInt (f3.1 39 8 (by (try dsimp only); omega))
    have bb45 := wt_bd (wt_gf σ 39 8)
    show ((wt_gf r1 39 8).toInt - (0 : Int32).toInt + 0).toNat < n
    omega
set_option maxRecDepth 100000 in
set_option maxHeartbeats 4000000 in
theorem wq_st_become (n : Nat) (hn : 4294967297 < n) (t0 : Nat) (t1 : Nat) (σ : wt_St) : wt_T (wp_st_become n t0 t1 σ) (fun q => wt_fr (fun i k => (i = t0 ∧ k = 8) ∨ (i = t0 ∧ k = 9)) (fun i => i = t0 + 1 ∨ i = t0 + 2 ∨ i = t0 + 3 ∨ i = t0 + 4 ∨ i = t0 + 5 ∨ i = t0 + 6 ∨ i = t0 + 7 ∨ i = t0 + 8) σ q) := by
  unfold wp_st_become
  refine wt_T_bi (wq_ap_copyRow n hn (t1 + 1) (t0 + 1) σ) (fun r1 h2 => ?_)
  have f3 := h2
  refine wt_T_bi (wq_ap_copyRow n hn (t1 + 2) (t0 + 2) r1) (fun r4 h5 => ?_)
  have f6 := h5
  refine wt_T_bi (wq_ap_copyRow n hn (t1 + 3) (t0 + 3) r4) (fun r7 h8 => ?_)
  have f9 := h8
  refine wt_T_bi (wq_ap_copyRow n hn (t1 + 4) (t0 + 4) r7) (fun r10 h11 => ?_)
  have f12 := h11
  refine wt_T_bi (wq_ap_copyRow n hn (t1 + 5) (t0 + 5) r10) (fun r13 h14 => ?_)
  have f15 := h14
  refine wt_T_bi (wq_ap_copyRow n hn (t1 + 6) (t0 + 6) r13) (fun r16 h17 => ?_)
  have f18 := h17
  refine wt_T_bi (wq_ap_copyRow n hn (t1 + 7) (t0 + 7) r16) (fun r19 h20 => ?_)
  have f21 := h20
  refine wt_T_bi (wq_ap_copyRow n hn (t1 + 8) (t0 + 8) r19) (fun r22 h23 => ?_)
  have f24 := h23
  obtain ⟨σ25, eσ25⟩ : ∃ z : wt_St, z = wt_sf r22 t0 8 (wt_gf r22 t1 8) := ⟨_, rfl⟩
  rw [← eσ25]
  have fσ25 := wt_fr_sf eσ25
  have vσ25 := wt_ceq (wt_v_sf eσ25)
  obtain ⟨σ26, eσ26⟩ : ∃ z : wt_St, z = wt_sf σ25 t0 9 (wt_gf σ25 t1 9) := ⟨_, rfl⟩
  rw [← eσ26]
  have fσ26 := wt_fr_sf eσ26
  have vσ26 := wt_ceq (wt_v_sf eσ26)
  refine wt_T_some ?_
  exact (wt_fr.tr (wt_fr.tr (wt_fr.tr (wt_fr.tr (wt_fr.tr (wt_fr.tr (wt_fr.tr (wt_fr.tr (wt_fr.tr (wt_fr.tr wt_fr.rf f3 (fun i k h => h.elim) (fun i h => by (try dsimp only at h); exact Or.inl (by first | exact h | omega))) f6 (fun i k h => h.elim) (fun i h => by (try dsimp only at h); exact Or.inr (Or.inl (by first | exact h | omega)))) f9 (fun i k h => h.elim) (fun i h => by (try dsimp only at h); exact Or.inr (Or.inr (Or.inl (by first | exact h | omega))))) f12 (fun i k h => h.elim) (fun i h => by (try dsimp only at h); exact Or.inr (Or.inr (Or.inr (Or.inl (by first | exact h | omega)))))) f15 (fun i k h => h.elim) (fun i h => by (try dsimp only at h); exact Or.inr (Or.inr (Or.inr (Or.inr (Or.inl (by first | exact h | omega))))))) f18 (fun i k h => h.elim) (fun i h => by (try dsimp only at h); exact Or.inr (Or.inr (Or.inr (Or.inr (Or.inr (Or.inl (by first | exact h | omega)))))))) f21 (fun i k h => h.elim) (fun i h => by (try dsimp only at h); exact Or.inr (Or.inr (Or.inr (Or.inr (Or.inr (Or.inr (Or.inl (by first | exact h | omega))))))))) f24 (fun i k h => h.elim) (fun i h => by (try dsimp only at h); exact Or.inr (Or.inr (Or.inr (Or.inr (Or.inr (Or.inr (Or.inr (by first | exact h | omega))))))))) fσ25 (fun i k h => by (try dsimp only at h); exact Or.inl (by first | exact h | omega)) (fun i h => h.elim)) fσ26 (fun i k h => by (try dsimp only at h); exact Or.inr (by first | exact h | omega)) (fun i h => h.elim))
set_option maxRecDepth 100000 in
set_option maxHeartbeats 4000000 in
theorem wq_ap_image (n : Nat) (hn : 4294967297 < n) (σ : wt_St) : wt_T (wp_ap_image n σ) (fun q => wt_fr (fun i k => ((49 ≤ i ∧ i < 76) ∧ k = 8) ∨ ((49 ≤ i ∧ i < 76) ∧ k = 9) ∨ (i = 0 ∧ k = 14)) (fun i => (49 ≤ i ∧ i < 76)) σ q.2) := by
  unfold wp_ap_image
  have bb1 := wt_bd (wt_gf σ 0 14)
  have k2 : (0 : Int32).toInt = 0 := by decide
  refine wt_T_if (fun h3 => ?_) (fun h3 => ?_)
  · skip
    have c4 := wt_clt h3
    refine wt_T_some ?_
    exact wt_fr.rf
  · skip
    have c5 := wt_ncl h3
    have k6 : (3 : Int32).toInt = 3 := by decide
    refine wt_T_if (fun h7 => ?_) (fun h7 => ?_)
    · skip
      have c8 := wt_clt h7
      refine wt_T_gd (wt_ix (by omega) (by omega)) ?_
      have bb9 := wt_tn (wt_gf σ 0 14)
      refine wt_T_bi (wq_st_become n hn (49 + (9 * (Int32.toNatClampNeg (wt_gf σ 0 14)))) 39 σ) (fun r10 h11 => ?_)
      have f12 := h11
      obtain ⟨σ13, eσ13⟩ : ∃ z : wt_St, z = wt_sf r10 0 14 ((wt_gf r10 0 14) + (1 : Int32)) := ⟨_, rfl⟩
      rw [← eσ13]
      have fσ13 := wt_fr_sf eσ13
      have vσ13 := wt_ceq (wt_v_sf eσ13)
      refine wt_T_some ?_
      exact (wt_fr.tr (wt_fr.tr wt_fr.rf f12 (fun i k h => by (try dsimp only at h); rcases h with h | h; exact Or.inl (by first | exact h | omega); exact Or.inr (Or.inl (by first | exact h | omega))) (fun i h => by (try dsimp only at h); exact (by first | exact h | omega))) fσ13 (fun i k h => by (try dsimp only at h); exact Or.inr (Or.inr (by first | exact h | omega))) (fun i h => h.elim))
    · skip
      have c14 := wt_ncl h7
      refine wt_T_some ?_
      exact wt_fr.rf
set_option maxRecDepth 100000 in
set_option maxHeartbeats 4000000 in
theorem wq_ld_become (n : Nat) (hn : 4294967297 < n) (t0 : Nat) (t1 : Nat) (σ : wt_St) : wt_T (wp_ld_become n t0 t1 σ) (fun q => wt_fr (fun i k => (i = t0 ∧ k = 7)) (fun i => i = t0 + 1 ∨ i = t0 + 2 ∨ i = t0 + 3 ∨ i = t0 + 4 ∨ i = t0 + 5 ∨ i = t0 + 6 ∨ i = t0 + 7) σ q) := by
  unfold wp_ld_become
  refine wt_T_bi (wq_ap_copyRow n hn (t1 + 1) (t0 + 1) σ) (fun r1 h2 => ?_)
  have f3 := h2
  refine wt_T_bi (wq_ap_copyRow n hn (t1 + 2) (t0 + 2) r1) (fun r4 h5 => ?_)
  have f6 := h5
  refine wt_T_bi (wq_ap_copyRow n hn (t1 + 3) (t0 + 3) r4) (fun r7 h8 => ?_)
  have f9 := h8
  refine wt_T_bi (wq_ap_copyRow n hn (t1 + 4) (t0 + 4) r7) (fun r10 h11 => ?_)
  have f12 := h11
  refine wt_T_bi (wq_ap_copyRow n hn (t1 + 5) (t0 + 5) r10) (fun r13 h14 => ?_)
  have f15 := h14
  refine wt_T_bi (wq_ap_copyRow n hn (t1 + 6) (t0 + 6) r13) (fun r16 h17 => ?_)
  have f18 := h17
  refine wt_T_bi (wq_ap_copyRow n hn (t1 + 7) (t0 + 7) r16) (fun r19 h20 => ?_)
  have f21 := h20
  obtain ⟨σ22, eσ22⟩ : ∃ z : wt_St, z = wt_sf r19 t0 7 (wt_gf r19 t1 7) := ⟨_, rfl⟩
  rw [← eσ22]
  have fσ22 := wt_fr_sf eσ22
  have vσ22 := wt_ceq (wt_v_sf eσ22)
  refine wt_T_some ?_
  exact (wt_fr.tr (wt_fr.tr (wt_fr.tr (wt_fr.tr (wt_fr.tr (wt_fr.tr (wt_fr.tr (wt_fr.tr wt_fr.rf f3 (fun i k h => h.elim) (fun i h => by (try dsimp only at h); exact Or.inl (by first | exact h | omega))) f6 (fun i k h => h.elim) (fun i h => by (try dsimp only at h); exact Or.inr (Or.inl (by first | exact h | omega)))) f9 (fun i k h => h.elim) (fun i h => by (try dsimp only at h); exact Or.inr (Or.inr (Or.inl (by first | exact h | omega))))) f12 (fun i k h => h.elim) (fun i h => by (try dsimp only at h); exact Or.inr (Or.inr (Or.inr (Or.inl (by first | exact h | omega)))))) f15 (fun i k h => h.elim) (fun i h => by (try dsimp only at h); exact Or.inr (Or.inr (Or.inr (Or.inr (Or.inl (by first | exact h | omega))))))) f18 (fun i k h => h.elim) (fun i h => by (try dsimp only at h); exact Or.inr (Or.inr (Or.inr (Or.inr (Or.inr (Or.inl (by first | exact h | omega)))))))) f21 (fun i k h => h.elim) (fun i h => by (try dsimp only at h); exact Or.inr (Or.inr (Or.inr (Or.inr (Or.inr (Or.inr (by first | exact h | omega)))))))) fσ22 (fun i k h => by (try dsimp only at h); exact (by first | exact h | omega)) (fun i h => h.elim))
set_option maxRecDepth 100000 in
set_option maxHeartbeats 4000000 in
theorem wq_ld_clear (n : Nat) (hn : 4294967297 < n) (t0 : Nat) (σ : wt_St) : wt_T (wp_ld_clear n t0 σ) (fun q => wt_fr (fun i k => (i = t0 ∧ k = 7)) (fun i => i = t0 + 1 ∨ i = t0 + 2 ∨ i = t0 + 3 ∨ i = t0 + 4 ∨ i = t0 + 5 ∨ i = t0 + 6 ∨ i = t0 + 7) σ q) := by
  unfold wp_ld_clear
  refine wt_T_bi (wq_ap_fillRow n hn (t0 + 1) (0 : Int32) σ) (fun r1 h2 => ?_)
  have f3 := h2
  refine wt_T_bi (wq_ap_fillRow n hn (t0 + 2) (0 : Int32) r1) (fun r4 h5 => ?_)
  have f6 := h5
  refine wt_T_bi (wq_ap_fillRow n hn (t0 + 3) (0 : Int32) r4) (fun r7 h8 => ?_)
  have f9 := h8
  refine wt_T_bi (wq_ap_fillRow n hn (t0 + 4) (0 : Int32) r7) (fun r10 h11 => ?_)
  have f12 := h11
  refine wt_T_bi (wq_ap_fillRow n hn (t0 + 5) (1 : Int32) r10) (fun r13 h14 => ?_)
  have f15 := h14
  refine wt_T_bi (wq_ap_fillRow n hn (t0 + 6) (-1 : Int32) r13) (fun r16 h17 => ?_)
  have f18 := h17
  refine wt_T_bi (wq_ap_fillRow n hn (t0 + 7) (0 : Int32) r16) (fun r19 h20 => ?_)
  have f21 := h20
  obtain ⟨σ22, eσ22⟩ : ∃ z : wt_St, z = wt_sf r19 t0 7 (0 : Int32) := ⟨_, rfl⟩
  rw [← eσ22]
  have fσ22 := wt_fr_sf eσ22
  have vσ22 := wt_ceq (wt_v_sf eσ22)
  refine wt_T_some ?_
  exact (wt_fr.tr (wt_fr.tr (wt_fr.tr (wt_fr.tr (wt_fr.tr (wt_fr.tr (wt_fr.tr (wt_fr.tr wt_fr.rf f3 (fun i k h => h.elim) (fun i h => by (try dsimp only at h); exact Or.inl (by first | exact h | omega))) f6 (fun i k h => h.elim) (fun i h => by (try dsimp only at h); exact Or.inr (Or.inl (by first | exact h | omega)))) f9 (fun i k h => h.elim) (fun i h => by (try dsimp only at h); exact Or.inr (Or.inr (Or.inl (by first | exact h | omega))))) f12 (fun i k h => h.elim) (fun i h => by (try dsimp only at h); exact Or.inr (Or.inr (Or.inr (Or.inl (by first | exact h | omega)))))) f15 (fun i k h => h.elim) (fun i h => by (try dsimp only at h); exact Or.inr (Or.inr (Or.inr (Or.inr (Or.inl (by first | exact h | omega))))))) f18 (fun i k h => h.elim) (fun i h => by (try dsimp only at h); exact Or.inr (Or.inr (Or.inr (Or.inr (Or.inr (Or.inl (by first | exact h | omega)))))))) f21 (fun i k h => h.elim) (fun i h => by (try dsimp only at h); exact Or.inr (Or.inr (Or.inr (Or.inr (Or.inr (Or.inr (by first | exact h | omega)))))))) fσ22 (fun i k h => by (try dsimp only at h); exact (by first | exact h | omega)) (fun i h => h.elim))
set_option maxRecDepth 100000 in
set_option maxHeartbeats 4000000 in
theorem wq_tp_fail (n : Nat) (hn : 4294967297 < n) (x1 : Int32) (σ : wt_St) : wt_T (wp_tp_fail n x1 σ) (fun q => wt_fr (fun i k => (i = 1 ∧ k = 6) ∨ (i = 1 ∧ k = 7)) (fun i => False) σ q.2) := by
  unfold wp_tp_fail
  obtain ⟨σ1, eσ1⟩ : ∃ z : wt_St, z = wt_sf σ 1 6 x1 := ⟨_, rfl⟩
  rw [← eσ1]
  have fσ1 := wt_fr_sf eσ1
  have vσ1 := wt_ceq (wt_v_sf eσ1)
  obtain ⟨σ2, eσ2⟩ : ∃ z : wt_St, z = wt_sf σ1 1 7 (wt_gf σ1 1 5) := ⟨_, rfl⟩
  rw [← eσ2]
  have fσ2 := wt_fr_sf eσ2
  have vσ2 := wt_ceq (wt_v_sf eσ2)
  refine wt_T_some ?_
  exact (wt_fr.tr (wt_fr.tr wt_fr.rf fσ1 (fun i k h => by (try dsimp only at h); exact Or.inl (by first | exact h | omega)) (fun i h => h.elim)) fσ2 (fun i k h => by (try dsimp only at h); exact Or.inr (by first | exact h | omega)) (fun i h => h.elim))
set_option maxRecDepth 100000 in
set_option maxHeartbeats 4000000 in
theorem wq_tp_isDigit (n : Nat) (hn : 4294967297 < n) (x0 : Int32) (σ : wt_St) : wt_T (wp_tp_isDigit n x0 σ) (fun q => q.2 = σ) := by
  unfold wp_tp_isDigit
  have bb1 := wt_bd x0
  have k2 : (48 : Int32).toInt = 48 := by decide
  refine wt_T_if (fun h3 => ?_) (fun h3 => ?_)
  · skip
    have c4 := wt_clt h3
    refine wt_T_some ?_
    exact rfl
  · skip
    have c5 := wt_ncl h3
    have k6 : (57 : Int32).toInt = 57 := by decide
    refine wt_T_if (fun h7 => ?_) (fun h7 => ?_)
    · skip
      have c8 := wt_clt h7
      refine wt_T_some ?_
      exact rfl
    · skip
      have c9 := wt_ncl h7
      refine wt_T_some ?_
      exact rfl
set_option maxRecDepth 100000 in
set_option maxHeartbeats 4000000 in
theorem wq_tp_skipBlanks (n : Nat) (hn : 4294967297 < n) (σ : wt_St) : wt_T (wp_tp_skipBlanks n σ) (fun q => wt_fr (fun i k => (i = 1 ∧ k = 5) ∨ (i = 1 ∧ k = 4)) (fun i => False) σ q) := by
  unfold wp_tp_skipBlanks
  refine wt_T_it (fun s : wt_St => wt_fr (fun i k => (i = 1 ∧ k = 4)) (fun i => False) σ s) (fun s : wt_St => ((wt_gf s 1 3).toInt - (wt_gf s 1 4).toInt + 0).toNat) (fun KK1 z2 I3 hKK1 => ?_) _ _ ?_ ?_
  · skip
    have l4 := I3
    unfold wp_tp_skipBlanks_B0
    have bb5 := wt_bd (wt_gf z2 1 3)
    have tt6 : (wt_gf z2 1 3).toInt = (wt_gf σ 1 3).toInt := congrArg Int32.toInt (l4.1 1 3 (by (try dsimp only); omega))
    have bb7 := wt_bd (wt_gf σ 1 3)
    have bb8 := wt_bd (wt_gf z2 1 4)
    refine wt_T_if (fun h9 => ?_) (fun h9 => ?_)
    · skip
      have c10 := wt_cle h9
      unfold wp_tp_skipBlanks_B40
      obtain ⟨σ11, eσ11⟩ : ∃ z : wt_St, z = wt_sf z2 1 5 (wt_gf z2 1 4) := ⟨_, rfl⟩
      rw [← eσ11]
      have fσ11 := wt_fr_sf eσ11
      have vσ11 := wt_ceq (wt_v_sf eσ11)
      refine wt_T_some ?_
      exact (wt_fr.tr (wt_fr.tr wt_fr.rf l4 (fun i k h => by (try dsimp only at h); exact Or.inr (by first | exact h | omega)) (fun i h => h.elim)) fσ11 (fun i k h => by (try dsimp only at h); exact Or.inl (by first | exact h | omega)) (fun i h => h.elim))
    · skip
      have c12 := wt_ncle h9
      refine wt_T_bi (wq_ap_look n hn 2 (wt_gf z2 1 4) z2) (fun r13 h14 => ?_)
      obtain ⟨e15, e15v⟩ := h14
      have e16 := wt_ceq e15v
      have bb17 := wt_bd (wt_lk 2 (wt_gf z2 1 4) z2)
      have bb18 := wt_bd r13.1
      rw [e15]
      have k19 : (32 : Int32).toInt = 32 := by decide
      refine wt_T_if (fun h20 => ?_) (fun h20 => ?_)
      · skip
        have c21 := wt_ceq h20
        obtain ⟨σ22, eσ22⟩ : ∃ z : wt_St, z = wt_sf z2 1 4 ((wt_gf z2 1 4) + (1 : Int32)) := ⟨_, rfl⟩
        rw [← eσ22]
        have fσ22 := wt_fr_sf eσ22
        have vσ22 := wt_ceq (wt_v_sf eσ22)
        have bb23 := wt_bd (wt_gf σ22 1 3)
        have tt24 : (wt_gf σ22 1 3).toInt = (wt_gf z2 1 3).toInt := congrArg Int32.toInt (fσ22.1 1 3 (by (try dsimp only); omega))
        have bb25 := wt_bd (wt_gf σ22 1 4)
        have k26 : (1 : Int32).toInt = 1 := by decide
        obtain ⟨j27, j27a, j27b⟩ := wt_addI (wt_gf z2 1 4) (1 : Int32)
        refine hKK1 _ (wt_fr.tr (wt_fr.tr wt_fr.rf l4 (fun i k h => by (try dsimp only at h); exact (by first | exact h | omega)) (fun i h => h.elim)) fσ22 (fun i k h => by (try dsimp only at h); exact (by first | exact h | omega)) (fun i h => h.elim)) ?_
        show ((wt_gf σ22 1 3).toInt - (wt_gf σ22 1 4).toInt + 0).toNat < ((wt_gf z2 1 3).toInt - (wt_gf z2 1 4).toInt + 0).toNat
        omega
      · skip
        have c28 := wt_nceq h20
        unfold wp_tp_skipBlanks_B40
        obtain ⟨σ29, eσ29⟩ : ∃ z : wt_St, z = wt_sf z2 1 5 (wt_gf z2 1 4) := ⟨_, rfl⟩
        rw [← eσ29]
        have fσ29 := wt_fr_sf eσ29
        have vσ29 := wt_ceq (wt_v_sf eσ29)
        refine wt_T_some ?_
        exact (wt_fr.tr (wt_fr.tr wt_fr.rf l4 (fun i k h => by (try dsimp only at h); exact Or.inr (by first | exact h | omega)) (fun i h => h.elim)) fσ29 (fun i k h => by (try dsimp only at h); exact Or.inl (by first | exact h | omega)) (fun i h => h.elim))
  · skip
    have bb30 := wt_bd (wt_gf σ 1 3)
    have bb31 := wt_bd (wt_gf σ 1 4)
    exact wt_fr.rf
  · skip
    have bb32 := wt_bd (wt_gf σ 1 3)
    have bb33 := wt_bd (wt_gf σ 1 4)
    show ((wt_gf σ 1 3).toInt - (wt_gf σ 1 4).toInt + 0).toNat < n
    omega
set_option maxRecDepth 100000 in
set_option maxHeartbeats 4000000 in
theorem wq_tp_takeNumber (n : Nat) (hn : 4294967297 < n) (x1 : Int32) (x2 : Int32) (σ : wt_St) : wt_T (wp_tp_takeNumber n x1 x2 σ) (fun q => wt_fr (fun i k => (i = 1 ∧ k = 5) ∨ (i = 1 ∧ k = 4) ∨ (i = 1 ∧ k = 6) ∨ (i = 1 ∧ k = 7)) (fun i => False) σ q.2) := by
  unfold wp_tp_takeNumber
  refine wt_T_bi (wq_tp_skipBlanks n hn σ) (fun r1 h2 => ?_)
  have f3 := h2
  refine wt_T_it (fun s : Int32 × wt_St => wt_fr (fun i k => (i = 1 ∧ k = 4)) (fun i => False) r1 s.2) (fun s : Int32 × wt_St => ((wt_gf s.2 1 3).toInt - (wt_gf s.2 1 4).toInt + 0).toNat) (fun KK4 z5 I6 hKK4 => ?_) _ _ ?_ ?_
  · skip
    have l7 := I6
    unfold wp_tp_takeNumber_B6
    have bb8 := wt_bd (wt_gf z5.2 1 3)
    have tt9 : (wt_gf z5.2 1 3).toInt = (wt_gf r1 1 3).toInt := congrArg Int32.toInt (l7.1 1 3 (by (try dsimp only); omega))
    have bb10 := wt_bd (wt_gf r1 1 3)
    have tt11 : (wt_gf r1 1 3).toInt = (wt_gf σ 1 3).toInt := congrArg Int32.toInt (f3.1 1 3 (by (try dsimp only); omega))
    have bb12 := wt_bd (wt_gf σ 1 3)
    have bb13 := wt_bd (wt_gf z5.2 1 4)
    refine wt_T_if (fun h14 => ?_) (fun h14 => ?_)
    · skip
      have c15 := wt_cle h14
      unfold wp_tp_takeNumber_B72
      have bb16 := wt_bd (wt_gf z5.2 1 5)
      have tt17 : (wt_gf z5.2 1 5).toInt = (wt_gf r1 1 5).toInt := congrArg Int32.toInt (l7.1 1 5 (by (try dsimp only); omega))
      have bb18 := wt_bd (wt_gf r1 1 5)
      refine wt_T_if (fun h19 => ?_) (fun h19 => ?_)
      · skip
        have c20 := wt_ceq h19
        refine wt_T_bi (wq_tp_fail n hn (1 : Int32) z5.2) (fun r21 h22 => ?_)
        have f23 := h22
        refine wt_T_some ?_
        exact (wt_fr.tr (wt_fr.tr (wt_fr.tr wt_fr.rf f3 (fun i k h => by (try dsimp only at h); rcases h with h | h; exact Or.inl (by first | exact h | omega); exact Or.inr (Or.inl (by first | exact h | omega))) (fun i h => h.elim)) l7 (fun i k h => by (try dsimp only at h); exact Or.inr (Or.inl (by first | exact h | omega))) (fun i h => h.elim)) f23 (fun i k h => by (try dsimp only at h); rcases h with h | h; exact Or.inr (Or.inr (Or.inl (by first | exact h | omega))); exact Or.inr (Or.inr (Or.inr (by first | exact h | omega)))) (fun i h => h.elim))
      · skip
        have c24 := wt_nceq h19
        have bb25 := wt_bd z5.1
        have bb26 := wt_bd x1
        refine wt_T_if (fun h27 => ?_) (fun h27 => ?_)
        · skip
          have c28 := wt_clt h27
          unfold wp_tp_takeNumber_B101
          refine wt_T_bi (wq_tp_fail n hn (2 : Int32) z5.2) (fun r29 h30 => ?_)
          have f31 := h30
          refine wt_T_some ?_
          exact (wt_fr.tr (wt_fr.tr (wt_fr.tr wt_fr.rf f3 (fun i k h => by (try dsimp only at h); rcases h with h | h; exact Or.inl (by first | exact h | omega); exact Or.inr (Or.inl (by first | exact h | omega))) (fun i h => h.elim)) l7 (fun i k h => by (try dsimp only at h); exact Or.inr (Or.inl (by first | exact h | omega))) (fun i h => h.elim)) f31 (fun i k h => by (try dsimp only at h); rcases h with h | h; exact Or.inr (Or.inr (Or.inl (by first | exact h | omega))); exact Or.inr (Or.inr (Or.inr (by first | exact h | omega)))) (fun i h => h.elim))
        · skip
          have c32 := wt_ncl h27
          have bb33 := wt_bd x2
          refine wt_T_if (fun h34 => ?_) (fun h34 => ?_)
          · skip
            have c35 := wt_cle h34
            refine wt_T_some ?_
            exact (wt_fr.tr (wt_fr.tr wt_fr.rf f3 (fun i k h => by (try dsimp only at h); rcases h with h | h; exact Or.inl (by first | exact h | omega); exact Or.inr (Or.inl (by first | exact h | omega))) (fun i h => h.elim)) l7 (fun i k h => by (try dsimp only at h); exact Or.inr (Or.inl (by first | exact h | omega))) (fun i h => h.elim))
          · skip
            have c36 := wt_ncle h34
            unfold wp_tp_takeNumber_B101
            refine wt_T_bi (wq_tp_fail n hn (2 : Int32) z5.2) (fun r37 h38 => ?_)
            have f39 := h38
            refine wt_T_some ?_
            exact (wt_fr.tr (wt_fr.tr (wt_fr.tr wt_fr.rf f3 (fun i k h => by (try dsimp only at h); rcases h with h | h; exact Or.inl (by first | exact h | omega); exact Or.inr (Or.inl (by first | exact h | omega))) (fun i h => h.elim)) l7 (fun i k h => by (try dsimp only at h); exact Or.inr (Or.inl (by first | exact h | omega))) (fun i h => h.elim)) f39 (fun i k h => by (try dsimp only at h); rcases h with h | h; exact Or.inr (Or.inr (Or.inl (by first | exact h | omega))); exact Or.inr (Or.inr (Or.inr (by first | exact h | omega)))) (fun i h => h.elim))
    · skip
      have c40 := wt_ncle h14
      refine wt_T_bi (wq_ap_look n hn 2 (wt_gf z5.2 1 4) z5.2) (fun r41 h42 => ?_)
      obtain ⟨e43, e43v⟩ := h42
      have e44 := wt_ceq e43v
      have bb45 := wt_bd (wt_lk 2 (wt_gf z5.2 1 4) z5.2)
      have bb46 := wt_bd r41.1
      rw [e43]
      refine wt_T_bi (wq_tp_isDigit n hn r41.1 z5.2) (fun r47 h48 => ?_)
      have e49 := h48
      rw [e49]
      have bb50 := wt_bd r47.1
      have k51 : (0 : Int32).toInt = 0 := by decide
      refine wt_T_if (fun h52 => ?_) (fun h52 => ?_)
      · skip
        have c53 := wt_ceq h52
        unfold wp_tp_takeNumber_B72
        have bb54 := wt_bd (wt_gf z5.2 1 5)
        have tt55 : (wt_gf z5.2 1 5).toInt = (wt_gf r1 1 5).toInt := congrArg Int32.toInt (l7.1 1 5 (by (try dsimp only); omega))
        have bb56 := wt_bd (wt_gf r1 1 5)
        refine wt_T_if (fun h57 => ?_) (fun h57 => ?_)
        · skip
          have c58 := wt_ceq h57
          refine wt_T_bi (wq_tp_fail n hn (1 : Int32) z5.2) (fun r59 h60 => ?_)
          have f61 := h60
          refine wt_T_some ?_
          exact (wt_fr.tr (wt_fr.tr (wt_fr.tr wt_fr.rf f3 (fun i k h => by (try dsimp only at h); rcases h with h | h; exact Or.inl (by first | exact h | omega); exact Or.inr (Or.inl (by first | exact h | omega))) (fun i h => h.elim)) l7 (fun i k h => by (try dsimp only at h); exact Or.inr (Or.inl (by first | exact h | omega))) (fun i h => h.elim)) f61 (fun i k h => by (try dsimp only at h); rcases h with h | h; exact Or.inr (Or.inr (Or.inl (by first | exact h | omega))); exact Or.inr (Or.inr (Or.inr (by first | exact h | omega)))) (fun i h => h.elim))
        · skip
          have c62 := wt_nceq h57
          have bb63 := wt_bd z5.1
          have bb64 := wt_bd x1
          refine wt_T_if (fun h65 => ?_) (fun h65 => ?_)
          · skip
            have c66 := wt_clt h65
            unfold wp_tp_takeNumber_B101
            refine wt_T_bi (wq_tp_fail n hn (2 : Int32) z5.2) (fun r67 h68 => ?_)
            have f69 := h68
            refine wt_T_some ?_
            exact (wt_fr.tr (wt_fr.tr (wt_fr.tr wt_fr.rf f3 (fun i k h => by (try dsimp only at h); rcases h with h | h; exact Or.inl (by first | exact h | omega); exact Or.inr (Or.inl (by first | exact h | omega))) (fun i h => h.elim)) l7 (fun i k h => by (try dsimp only at h); exact Or.inr (Or.inl (by first | exact h | omega))) (fun i h => h.elim)) f69 (fun i k h => by (try dsimp only at h); rcases h with h | h; exact Or.inr (Or.inr (Or.inl (by first | exact h | omega))); exact Or.inr (Or.inr (Or.inr (by first | exact h | omega)))) (fun i h => h.elim))
          · skip
            have c70 := wt_ncl h65
            have bb71 := wt_bd x2
            refine wt_T_if (fun h72 => ?_) (fun h72 => ?_)
            · skip
              have c73 := wt_cle h72
              refine wt_T_some ?_
              exact (wt_fr.tr (wt_fr.tr wt_fr.rf f3 (fun i k h => by (try dsimp only at h); rcases h with h | h; exact Or.inl (by first | exact h | omega); exact Or.inr (Or.inl (by first | exact h | omega))) (fun i h => h.elim)) l7 (fun i k h => by (try dsimp only at h); exact Or.inr (Or.inl (by first | exact h | omega))) (fun i h => h.elim))
            · skip
              have c74 := wt_ncle h72
              unfold wp_tp_takeNumber_B101
              refine wt_T_bi (wq_tp_fail n hn (2 : Int32) z5.2) (fun r75 h76 => ?_)
              have f77 := h76
              refine wt_T_some ?_
              exact (wt_fr.tr (wt_fr.tr (wt_fr.tr wt_fr.rf f3 (fun i k h => by (try dsimp only at h); rcases h with h | h; exact Or.inl (by first | exact h | omega); exact Or.inr (Or.inl (by first | exact h | omega))) (fun i h => h.elim)) l7 (fun i k h => by (try dsimp only at h); exact Or.inr (Or.inl (by first | exact h | omega))) (fun i h => h.elim)) f77 (fun i k h => by (try dsimp only at h); rcases h with h | h; exact Or.inr (Or.inr (Or.inl (by first | exact h | omega))); exact Or.inr (Or.inr (Or.inr (by first | exact h | omega)))) (fun i h => h.elim))
      · skip
        have c78 := wt_nceq h52
        refine wt_T_bi (wq_ap_look n hn 2 (wt_gf z5.2 1 4) z5.2) (fun r79 h80 => ?_)
        obtain ⟨e81, e81v⟩ := h80
        have e82 := wt_ceq e81v
        have bb83 := wt_bd r79.1
        rw [e81]
        obtain ⟨σ84, eσ84⟩ : ∃ z : wt_St, z = wt_sf z5.2 1 4 ((wt_gf z5.2 1 4) + (1 : Int32)) := ⟨_, rfl⟩
        rw [← eσ84]
        have fσ84 := wt_fr_sf eσ84
        have vσ84 := wt_ceq (wt_v_sf eσ84)
        have bb85 := wt_bd (wt_gf σ84 1 3)
        have tt86 : (wt_gf σ84 1 3).toInt = (wt_gf z5.2 1 3).toInt := congrArg Int32.toInt (fσ84.1 1 3 (by (try dsimp only); omega))
        have bb87 := wt_bd (wt_gf σ84 1 4)
        have k88 : (1 : Int32).toInt = 1 := by decide
        obtain ⟨j89, j89a, j89b⟩ := wt_addI (wt_gf z5.2 1 4) (1 : Int32)
        refine hKK4 _ (wt_fr.tr (wt_fr.tr wt_fr.rf l7 (fun i k h => by (try dsimp only at h); exact (by first | exact h | omega)) (fun i h => h.elim)) fσ84 (fun i k h => by (try dsimp only at h); exact (by first | exact h | omega)) (fun i h => h.elim)) ?_
        show ((wt_gf σ84 1 3).toInt - (wt_gf σ84 1 4).toInt + 0).toNat < ((wt_gf z5.2 1 3).toInt - (wt_gf z5.2 1 4).toInt + 0).toNat
        omega
  · skip
    have bb90 := wt_bd (wt_gf r1 1 3)
    have tt91 : (wt_gf r1 1 3).toInt = (wt_gf σ 1 3).toInt := congrArg Int32.toInt (f3.1 1 3 (by (try dsimp only); omega))
    have bb92 := wt_bd (wt_gf σ 1 3)
    have bb93 := wt_bd (wt_gf r1 1 4)
    exact wt_fr.rf
  · skip
    have bb94 := wt_bd (wt_gf r1 1 3)
    have tt95 : (wt_gf r1 1 3).toInt = (wt_gf σ 1 3).toInt := congrArg Int32.toInt (f3.1 1 3 (by (try dsimp only); omega))
    have bb96 := wt_bd (wt_gf σ 1 3)
    have bb97 := wt_bd (wt_gf r1 1 4)
    show ((wt_gf r1 1 3).toInt - (wt_gf r1 1 4).toInt + 0).toNat < n
    omega
set_option maxRecDepth 100000 in
set_option maxHeartbeats 4000000 in
theorem wq_ld_fillFaint (n : Nat) (hn : 4294967297 < n) (t0 : Nat) (σ : wt_St) : wt_T (wp_ld_fillFaint n t0 σ) (fun q => wt_fr (fun i k => (i = 1 ∧ k = 5) ∨ (i = 1 ∧ k = 4) ∨ (i = 1 ∧ k = 6) ∨ (i = 1 ∧ k = 7) ∨ (i = t0 ∧ k = 7)) (fun i => False) σ q.2) := by
  unfold wp_ld_fillFaint
  refine wt_T_bi (wq_tp_takeNumber n hn (0 : Int32) (99 : Int32) σ) (fun r1 h2 => ?_)
  have f3 := h2
  have bb4 := wt_bd r1.1
  refine wt_T_if (fun h5 => ?_) (fun h5 => ?_)
  · skip
    have c6 := wt_ceq h5
    rw [wt_lm1] at c6
    refine wt_T_some ?_
    exact (wt_fr.tr wt_fr.rf f3 (fun i k h => by (try dsimp only at h); rcases h with h | h | h | h; exact Or.inl (by first | exact h | omega); exact Or.inr (Or.inl (by first | exact h | omega)); exact Or.inr (Or.inr (Or.inl (by first | exact h | omega))); exact Or.inr (Or.inr (Or.inr (Or.inl (by first | exact h | omega))))) (fun i h => h.elim))
  · skip
    have c7 := wt_nceq h5
    rw [wt_lm1] at c7
    obtain ⟨σ8, eσ8⟩ : ∃ z : wt_St, z = wt_sf r1.2 t0 7 r1.1 := ⟨_, rfl⟩
    rw [← eσ8]
    have fσ8 := wt_fr_sf eσ8
    have vσ8 := wt_ceq (wt_v_sf eσ8)
    refine wt_T_some ?_
    exact (wt_fr.tr (wt_fr.tr wt_fr.rf f3 (fun i k h => by (try dsimp only at h); rcases h with h | h | h | h; exact Or.inl (by first | exact h | omega); exact Or.inr (Or.inl (by first | exact h | omega)); exact Or.inr (Or.inr (Or.inl (by first | exact h | omega))); exact Or.inr (Or.inr (Or.inr (Or.inl (by first | exact h | omega))))) (fun i h => h.elim)) fσ8 (fun i k h => by (try dsimp only at h); exact Or.inr (Or.inr (Or.inr (Or.inr (by first | exact h | omega))))) (fun i h => h.elim))
set_option maxRecDepth 100000 in
set_option maxHeartbeats 4000000 in
theorem wq_ld_fillFollow (n : Nat) (hn : 4294967297 < n) (t0 : Nat) (σ : wt_St) : wt_T (wp_ld_fillFollow n t0 σ) (fun q => wt_fr (fun i k => (i = 1 ∧ k = 5) ∨ (i = 1 ∧ k = 4) ∨ (i = 1 ∧ k = 6) ∨ (i = 1 ∧ k = 7)) (fun i => i = t0 + 7) σ q.2) := by
  unfold wp_ld_fillFollow
  refine wt_T_bi (wq_tp_takeNumber n hn (0 : Int32) (3 : Int32) σ) (fun r1 h2 => ?_)
  have f3 := h2
  have bb4 := wt_bd r1.1
  refine wt_T_if (fun h5 => ?_) (fun h5 => ?_)
  · skip
    have c6 := wt_ceq h5
    rw [wt_lm1] at c6
    refine wt_T_some ?_
    exact (wt_fr.tr wt_fr.rf f3 (fun i k h => by (try dsimp only at h); rcases h with h | h | h | h; exact Or.inl (by first | exact h | omega); exact Or.inr (Or.inl (by first | exact h | omega)); exact Or.inr (Or.inr (Or.inl (by first | exact h | omega))); exact Or.inr (Or.inr (Or.inr (by first | exact h | omega)))) (fun i h => h.elim))
  · skip
    have c7 := wt_nceq h5
    rw [wt_lm1] at c7
    refine wt_T_bi (wq_tp_takeNumber n hn (0 : Int32) (3 : Int32) r1.2) (fun r8 h9 => ?_)
    have f10 := h9
    have bb11 := wt_bd r8.1
    refine wt_T_if (fun h12 => ?_) (fun h12 => ?_)
    · skip
      have c13 := wt_ceq h12
      rw [wt_lm1] at c13
      refine wt_T_some ?_
      exact (wt_fr.tr (wt_fr.tr wt_fr.rf f3 (fun i k h => by (try dsimp only at h); rcases h with h | h | h | h; exact Or.inl (by first | exact h | omega); exact Or.inr (Or.inl (by first | exact h | omega)); exact Or.inr (Or.inr (Or.inl (by first | exact h | omega))); exact Or.inr (Or.inr (Or.inr (by first | exact h | omega)))) (fun i h => h.elim)) f10 (fun i k h => by (try dsimp only at h); rcases h with h | h | h | h; exact Or.inl (by first | exact h | omega); exact Or.inr (Or.inl (by first | exact h | omega)); exact Or.inr (Or.inr (Or.inl (by first | exact h | omega))); exact Or.inr (Or.inr (Or.inr (by first | exact h | omega)))) (fun i h => h.elim))
    · skip
      have c14 := wt_nceq h12
      rw [wt_lm1] at c14
      refine wt_T_bi (wq_ap_look n hn (t0 + 7) r1.1 r8.2) (fun r15 h16 => ?_)
      obtain ⟨e17, e17v⟩ := h16
      have e18 := wt_ceq e17v
      have bb19 := wt_bd (wt_lk (t0 + 7) r1.1 r8.2)
      have bb20 := wt_bd r15.1
      rw [e17]
      refine wt_T_bi (wq_ap_put n hn (t0 + 7) r1.1 (r15.1 ||| ((1 : Int32) <<< (r8.1 &&& 31))) r8.2) (fun r21 h22 => ?_)
      have f23 := h22
      refine wt_T_some ?_
      exact (wt_fr.tr (wt_fr.tr (wt_fr.tr wt_fr.rf f3 (fun i k h => by (try dsimp only at h); rcases h with h | h | h | h; exact Or.inl (by first | exact h | omega); exact Or.inr (Or.inl (by first | exact h | omega)); exact Or.inr (Or.inr (Or.inl (by first | exact h | omega))); exact Or.inr (Or.inr (Or.inr (by first | exact h | omega)))) (fun i h => h.elim)) f10 (fun i k h => by (try dsimp only at h); rcases h with h | h | h | h; exact Or.inl (by first | exact h | omega); exact Or.inr (Or.inl (by first | exact h | omega)); exact Or.inr (Or.inr (Or.inl (by first | exact h | omega))); exact Or.inr (Or.inr (Or.inr (by first | exact h | omega)))) (fun i h => h.elim)) f23 (fun i k h => h.elim) (fun i h => by (try dsimp only at h); exact (by first | exact h | omega)))
set_option maxRecDepth 100000 in
set_option maxHeartbeats 4000000 in
theorem wq_tp_isSmall (n : Nat) (hn : 4294967297 < n) (x0 : Int32) (σ : wt_St) : wt_T (wp_tp_isSmall n x0 σ) (fun q => q.2 = σ) := by
  unfold wp_tp_isSmall
  have bb1 := wt_bd x0
  have k2 : (97 : Int32).toInt = 97 := by decide
  refine wt_T_if (fun h3 => ?_) (fun h3 => ?_)
  · skip
    have c4 := wt_clt h3
    refine wt_T_some ?_
    exact rfl
  · skip
    have c5 := wt_ncl h3
    have k6 : (122 : Int32).toInt = 122 := by decide
    refine wt_T_if (fun h7 => ?_) (fun h7 => ?_)
    · skip
      have c8 := wt_clt h7
      refine wt_T_some ?_
      exact rfl
    · skip
      have c9 := wt_ncl h7
      refine wt_T_some ?_
      exact rfl
set_option maxRecDepth 100000 in
set_option maxHeartbeats 4000000 in
theorem wq_tp_takeWord (n : Nat) (hn : 4294967297 < n) (σ : wt_St) : wt_T (wp_tp_takeWord n σ) (fun q => wt_fr (fun i k => (i = 1 ∧ k = 5) ∨ (i = 1 ∧ k = 4) ∨ (i = 1 ∧ k = 6) ∨ (i = 1 ∧ k = 7)) (fun i => i = 3) σ q.2) := by
  unfold wp_tp_takeWord
  refine wt_T_bi (wq_tp_skipBlanks n hn σ) (fun r1 h2 => ?_)
  have f3 := h2
  refine wt_T_it (fun s : Int32 × wt_St => wt_fr (fun i k => (i = 1 ∧ k = 4)) (fun i => i = 3) r1 s.2) (fun s : Int32 × wt_St => ((wt_gf s.2 1 3).toInt - (wt_gf s.2 1 4).toInt + 0).toNat) (fun KK4 z5 I6 hKK4 => ?_) _ _ ?_ ?_
  · skip
    have l7 := I6
    unfold wp_tp_takeWord_B6
    have bb8 := wt_bd (wt_gf z5.2 1 3)
    have tt9 : (wt_gf z5.2 1 3).toInt = (wt_gf r1 1 3).toInt := congrArg Int32.toInt (l7.1 1 3 (by (try dsimp only); omega))
    have bb10 := wt_bd (wt_gf r1 1 3)
    have tt11 : (wt_gf r1 1 3).toInt = (wt_gf σ 1 3).toInt := congrArg Int32.toInt (f3.1 1 3 (by (try dsimp only); omega))
    have bb12 := wt_bd (wt_gf σ 1 3)
    have bb13 := wt_bd (wt_gf z5.2 1 4)
    refine wt_T_if (fun h14 => ?_) (fun h14 => ?_)
    · skip
      have c15 := wt_cle h14
      unfold wp_tp_takeWord_B72
      have bb16 := wt_bd (wt_gf z5.2 1 5)
      have tt17 : (wt_gf z5.2 1 5).toInt = (wt_gf r1 1 5).toInt := congrArg Int32.toInt (l7.1 1 5 (by (try dsimp only); omega))
      have bb18 := wt_bd (wt_gf r1 1 5)
      refine wt_T_if (fun h19 => ?_) (fun h19 => ?_)
      · skip
        have c20 := wt_clt h19
        refine wt_T_some ?_
        exact (wt_fr.tr (wt_fr.tr wt_fr.rf f3 (fun i k h => by (try dsimp only at h); rcases h with h | h; exact Or.inl (by first | exact h | omega); exact Or.inr (Or.inl (by first | exact h | omega))) (fun i h => h.elim)) l7 (fun i k h => by (try dsimp only at h); exact Or.inr (Or.inl (by first | exact h | omega))) (fun i h => by (try dsimp only at h); exact (by first | exact h | omega)))
      · skip
        have c21 := wt_ncl h19
        refine wt_T_bi (wq_tp_fail n hn (1 : Int32) z5.2) (fun r22 h23 => ?_)
        have f24 := h23
        have bb25 := wt_bd r22.1
        have k26 : (0 : Int32).toInt = 0 := by decide
        refine wt_T_if (fun h27 => ?_) (fun h27 => ?_)
        · skip
          have c28 := wt_ceq h27
          refine wt_T_some ?_
          exact (wt_fr.tr (wt_fr.tr (wt_fr.tr wt_fr.rf f3 (fun i k h => by (try dsimp only at h); rcases h with h | h; exact Or.inl (by first | exact h | omega); exact Or.inr (Or.inl (by first | exact h | omega))) (fun i h => h.elim)) l7 (fun i k h => by (try dsimp only at h); exact Or.inr (Or.inl (by first | exact h | omega))) (fun i h => by (try dsimp only at h); exact (by first | exact h | omega))) f24 (fun i k h => by (try dsimp only at h); rcases h with h | h; exact Or.inr (Or.inr (Or.inl (by first | exact h | omega))); exact Or.inr (Or.inr (Or.inr (by first | exact h | omega)))) (fun i h => h.elim))
        · skip
          have c29 := wt_nceq h27
          refine wt_T_some ?_
          exact (wt_fr.tr (wt_fr.tr (wt_fr.tr wt_fr.rf f3 (fun i k h => by (try dsimp only at h); rcases h with h | h; exact Or.inl (by first | exact h | omega); exact Or.inr (Or.inl (by first | exact h | omega))) (fun i h => h.elim)) l7 (fun i k h => by (try dsimp only at h); exact Or.inr (Or.inl (by first | exact h | omega))) (fun i h => by (try dsimp only at h); exact (by first | exact h | omega))) f24 (fun i k h => by (try dsimp only at h); rcases h with h | h; exact Or.inr (Or.inr (Or.inl (by first | exact h | omega))); exact Or.inr (Or.inr (Or.inr (by first | exact h | omega)))) (fun i h => h.elim))
    · skip
      have c30 := wt_ncle h14
      refine wt_T_bi (wq_ap_look n hn 2 (wt_gf z5.2 1 4) z5.2) (fun r31 h32 => ?_)
      obtain ⟨e33, e33v⟩ := h32
      have e34 := wt_ceq e33v
      have bb35 := wt_bd (wt_lk 2 (wt_gf z5.2 1 4) z5.2)
      have bb36 := wt_bd r31.1
      rw [e33]
      refine wt_T_bi (wq_tp_isSmall n hn r31.1 z5.2) (fun r37 h38 => ?_)
      have e39 := h38
      rw [e39]
      have bb40 := wt_bd r37.1
      have k41 : (0 : Int32).toInt = 0 := by decide
      refine wt_T_if (fun h42 => ?_) (fun h42 => ?_)
      · skip
        have c43 := wt_ceq h42
        unfold wp_tp_takeWord_B72
        have bb44 := wt_bd (wt_gf z5.2 1 5)
        have tt45 : (wt_gf z5.2 1 5).toInt = (wt_gf r1 1 5).toInt := congrArg Int32.toInt (l7.1 1 5 (by (try dsimp only); omega))
        have bb46 := wt_bd (wt_gf r1 1 5)
        refine wt_T_if (fun h47 => ?_) (fun h47 => ?_)
        · skip
          have c48 := wt_clt h47
          refine wt_T_some ?_
          exact (wt_fr.tr (wt_fr.tr wt_fr.rf f3 (fun i k h => by (try dsimp only at h); rcases h with h | h; exact Or.inl (by first | exact h | omega); exact Or.inr (Or.inl (by first | exact h | omega))) (fun i h => h.elim)) l7 (fun i k h => by (try dsimp only at h); exact Or.inr (Or.inl (by first | exact h | omega))) (fun i h => by (try dsimp only at h); exact (by first | exact h | omega)))
        · skip
          have c49 := wt_ncl h47
          refine wt_T_bi (wq_tp_fail n hn (1 : Int32) z5.2) (fun r50 h51 => ?_)
          have f52 := h51
          have bb53 := wt_bd r50.1
          refine wt_T_if (fun h54 => ?_) (fun h54 => ?_)
          · skip
            have c55 := wt_ceq h54
            refine wt_T_some ?_
            exact (wt_fr.tr (wt_fr.tr (wt_fr.tr wt_fr.rf f3 (fun i k h => by (try dsimp only at h); rcases h with h | h; exact Or.inl (by first | exact h | omega); exact Or.inr (Or.inl (by first | exact h | omega))) (fun i h => h.elim)) l7 (fun i k h => by (try dsimp only at h); exact Or.inr (Or.inl (by first | exact h | omega))) (fun i h => by (try dsimp only at h); exact (by first | exact h | omega))) f52 (fun i k h => by (try dsimp only at h); rcases h with h | h; exact Or.inr (Or.inr (Or.inl (by first | exact h | omega))); exact Or.inr (Or.inr (Or.inr (by first | exact h | omega)))) (fun i h => h.elim))
          · skip
            have c56 := wt_nceq h54
            refine wt_T_some ?_
            exact (wt_fr.tr (wt_fr.tr (wt_fr.tr wt_fr.rf f3 (fun i k h => by (try dsimp only at h); rcases h with h | h; exact Or.inl (by first | exact h | omega); exact Or.inr (Or.inl (by first | exact h | omega))) (fun i h => h.elim)) l7 (fun i k h => by (try dsimp only at h); exact Or.inr (Or.inl (by first | exact h | omega))) (fun i h => by (try dsimp only at h); exact (by first | exact h | omega))) f52 (fun i k h => by (try dsimp only at h); rcases h with h | h; exact Or.inr (Or.inr (Or.inl (by first | exact h | omega))); exact Or.inr (Or.inr (Or.inr (by first | exact h | omega)))) (fun i h => h.elim))
      · skip
        have c57 := wt_nceq h42
        refine wt_T_bi (wq_ap_look n hn 2 (wt_gf z5.2 1 4) z5.2) (fun r58 h59 => ?_)
        obtain ⟨e60, e60v⟩ := h59
        have e61 := wt_ceq e60v
        have bb62 := wt_bd r58.1
        rw [e60]
        refine wt_T_bi (wq_ap_put n hn 3 z5.1 (r58.1 - (97 : Int32)) z5.2) (fun r63 h64 => ?_)
        have f65 := h64
        obtain ⟨σ66, eσ66⟩ : ∃ z : wt_St, z = wt_sf r63 1 4 ((wt_gf r63 1 4) + (1 : Int32)) := ⟨_, rfl⟩
        rw [← eσ66]
        have fσ66 := wt_fr_sf eσ66
        have vσ66 := wt_ceq (wt_v_sf eσ66)
        have bb67 := wt_bd (wt_gf σ66 1 3)
        have tt68 : (wt_gf σ66 1 3).toInt = (wt_gf r63 1 3).toInt := congrArg Int32.toInt (fσ66.1 1 3 (by (try dsimp only); omega))
        have bb69 := wt_bd (wt_gf r63 1 3)
        have tt70 : (wt_gf r63 1 3).toInt = (wt_gf z5.2 1 3).toInt := congrArg Int32.toInt (f65.1 1 3 (fun z => z))
        have bb71 := wt_bd (wt_gf σ66 1 4)
        have bb72 := wt_bd (wt_gf r63 1 4)
        have tt73 : (wt_gf r63 1 4).toInt = (wt_gf z5.2 1 4).toInt := congrArg Int32.toInt (f65.1 1 4 (fun z => z))
        have k74 : (1 : Int32).toInt = 1 := by decide
        obtain ⟨j75, j75a, j75b⟩ := wt_addI (wt_gf r63 1 4) (1 : Int32)
        refine hKK4 _ (wt_fr.tr (wt_fr.tr (wt_fr.tr wt_fr.rf l7 (fun i k h => by (try dsimp only at h); exact (by first | exact h | omega)) (fun i h => by (try dsimp only at h); exact (by first | exact h | omega))) f65 (fun i k h => h.elim) (fun i h => by (try dsimp only at h); exact (by first | exact h | omega))) fσ66 (fun i k h => by (try dsimp only at h); exact (by first | exact h | omega)) (fun i h => h.elim)) ?_
        show ((wt_gf σ66 1 3).toInt - (wt_gf σ66 1 4).toInt + 0).toNat < ((wt_gf z5.2 1 3).toInt - (wt_gf z5.2 1 4).toInt + 0).toNat
        omega
  · skip
    have bb76 := wt_bd (wt_gf r1 1 3)
    have tt77 : (wt_gf r1 1 3).toInt = (wt_gf σ 1 3).toInt := congrArg Int32.toInt (f3.1 1 3 (by (try dsimp only); omega))
    have bb78 := wt_bd (wt_gf σ 1 3)
    have bb79 := wt_bd (wt_gf r1 1 4)
    exact wt_fr.rf
  · skip
    have bb80 := wt_bd (wt_gf r1 1 3)
    have tt81 : (wt_gf r1 1 3).toInt = (wt_gf σ 1 3).toInt := congrArg Int32.toInt (f3.1 1 3 (by (try dsimp only); omega))
    have bb82 := wt_bd (wt_gf σ 1 3)
    have bb83 := wt_bd (wt_gf r1 1 4)
    show ((wt_gf r1 1 3).toInt - (wt_gf r1 1 4).toInt + 0).toNat < n
    omega
set_option maxRecDepth 100000 in
set_option maxHeartbeats 4000000 in
theorem wq_tp_wordLength (n : Nat) (hn : 4294967297 < n) (σ : wt_St) : wt_T (wp_tp_wordLength n σ) (fun q => q.2 = σ) := by
  unfold wp_tp_wordLength
  refine wt_T_some ?_
  exact rfl
set_option maxRecDepth 100000 in
set_option maxHeartbeats 4000000 in
theorem wq_tp_takeLetter (n : Nat) (hn : 4294967297 < n) (σ : wt_St) : wt_T (wp_tp_takeLetter n σ) (fun q => wt_fr (fun i k => (i = 1 ∧ k = 5) ∨ (i = 1 ∧ k = 4) ∨ (i = 1 ∧ k = 6) ∨ (i = 1 ∧ k = 7)) (fun i => i = 3) σ q.2) := by
  unfold wp_tp_takeLetter
  refine wt_T_bi (wq_tp_takeWord n hn σ) (fun r1 h2 => ?_)
  have f3 := h2
  have bb4 := wt_bd r1.1
  have k5 : (0 : Int32).toInt = 0 := by decide
  refine wt_T_if (fun h6 => ?_) (fun h6 => ?_)
  · skip
    have c7 := wt_ceq h6
    refine wt_T_some ?_
    exact (wt_fr.tr wt_fr.rf f3 (fun i k h => by (try dsimp only at h); rcases h with h | h | h | h; exact Or.inl (by first | exact h | omega); exact Or.inr (Or.inl (by first | exact h | omega)); exact Or.inr (Or.inr (Or.inl (by first | exact h | omega))); exact Or.inr (Or.inr (Or.inr (by first | exact h | omega)))) (fun i h => by (try dsimp only at h); exact (by first | exact h | omega)))
  · skip
    have c8 := wt_nceq h6
    refine wt_T_bi (wq_tp_wordLength n hn r1.2) (fun r9 h10 => ?_)
    have e11 := h10
    rw [e11]
    have bb12 := wt_bd r9.1
    have k13 : (1 : Int32).toInt = 1 := by decide
    refine wt_T_if (fun h14 => ?_) (fun h14 => ?_)
    · skip
      have c15 := wt_cle h14
      refine wt_T_bi (wq_ap_look n hn 3 (0 : Int32) r1.2) (fun r16 h17 => ?_)
      obtain ⟨e18, e18v⟩ := h17
      have e19 := wt_ceq e18v
      have bb20 := wt_bd (wt_lk 3 (0 : Int32) r1.2)
      have bb21 := wt_bd r16.1
      rw [e18]
      refine wt_T_some ?_
      exact (wt_fr.tr wt_fr.rf f3 (fun i k h => by (try dsimp only at h); rcases h with h | h | h | h; exact Or.inl (by first | exact h | omega); exact Or.inr (Or.inl (by first | exact h | omega)); exact Or.inr (Or.inr (Or.inl (by first | exact h | omega))); exact Or.inr (Or.inr (Or.inr (by first | exact h | omega)))) (fun i h => by (try dsimp only at h); exact (by first | exact h | omega)))
    · skip
      have c22 := wt_ncle h14
      refine wt_T_bi (wq_tp_fail n hn (2 : Int32) r1.2) (fun r23 h24 => ?_)
      have f25 := h24
      refine wt_T_some ?_
      exact (wt_fr.tr (wt_fr.tr wt_fr.rf f3 (fun i k h => by (try dsimp only at h); rcases h with h | h | h | h; exact Or.inl (by first | exact h | omega); exact Or.inr (Or.inl (by first | exact h | omega)); exact Or.inr (Or.inr (Or.inl (by first | exact h | omega))); exact Or.inr (Or.inr (Or.inr (by first | exact h | omega)))) (fun i h => by (try dsimp only at h); exact (by first | exact h | omega))) f25 (fun i k h => by (try dsimp only at h); rcases h with h | h; exact Or.inr (Or.inr (Or.inl (by first | exact h | omega))); exact Or.inr (Or.inr (Or.inr (by first | exact h | omega)))) (fun i h => h.elim))
set_option maxRecDepth 100000 in
set_option maxHeartbeats 4000000 in
theorem wq_ld_fillLike (n : Nat) (hn : 4294967297 < n) (t0 : Nat) (σ : wt_St) : wt_T (wp_ld_fillLike n t0 σ) (fun q => wt_fr (fun i k => (i = 1 ∧ k = 5) ∨ (i = 1 ∧ k = 4) ∨ (i = 1 ∧ k = 6) ∨ (i = 1 ∧ k = 7)) (fun i => i = 3 ∨ i = t0 + 6) σ q.2) := by
  unfold wp_ld_fillLike
  refine wt_T_bi (wq_tp_takeLetter n hn σ) (fun r1 h2 => ?_)
  have f3 := h2
  have bb4 := wt_bd r1.1
  refine wt_T_if (fun h5 => ?_) (fun h5 => ?_)
  · skip
    have c6 := wt_ceq h5
    rw [wt_lm1] at c6
    refine wt_T_some ?_
    exact (wt_fr.tr wt_fr.rf f3 (fun i k h => by (try dsimp only at h); rcases h with h | h | h | h; exact Or.inl (by first | exact h | omega); exact Or.inr (Or.inl (by first | exact h | omega)); exact Or.inr (Or.inr (Or.inl (by first | exact h | omega))); exact Or.inr (Or.inr (Or.inr (by first | exact h | omega)))) (fun i h => by (try dsimp only at h); exact Or.inl (by first | exact h | omega)))
  · skip
    have c7 := wt_nceq h5
    rw [wt_lm1] at c7
    refine wt_T_bi (wq_tp_takeLetter n hn r1.2) (fun r8 h9 => ?_)
    have f10 := h9
    have bb11 := wt_bd r8.1
    refine wt_T_if (fun h12 => ?_) (fun h12 => ?_)
    · skip
      have c13 := wt_ceq h12
      rw [wt_lm1] at c13
      refine wt_T_some ?_
      exact (wt_fr.tr (wt_fr.tr wt_fr.rf f3 (fun i k h => by (try dsimp only at h); rcases h with h | h | h | h; exact Or.inl (by first | exact h | omega); exact Or.inr (Or.inl (by first | exact h | omega)); exact Or.inr (Or.inr (Or.inl (by first | exact h | omega))); exact Or.inr (Or.inr (Or.inr (by first | exact h | omega)))) (fun i h => by (try dsimp only at h); exact Or.inl (by first | exact h | omega))) f10 (fun i k h => by (try dsimp only at h); rcases h with h | h | h | h; exact Or.inl (by first | exact h | omega); exact Or.inr (Or.inl (by first | exact h | omega)); exact Or.inr (Or.inr (Or.inl (by first | exact h | omega))); exact Or.inr (Or.inr (Or.inr (by first | exact h | omega)))) (fun i h => by (try dsimp only at h); exact Or.inl (by first | exact h | omega)))
    · skip
      have c14 := wt_nceq h12
      rw [wt_lm1] at c14
      refine wt_T_bi (wq_ap_put n hn (t0 + 6) r1.1 r8.1 r8.2) (fun r15 h16 => ?_)
      have f17 := h16
      refine wt_T_some ?_
      exact (wt_fr.tr (wt_fr.tr (wt_fr.tr wt_fr.rf f3 (fun i k h => by (try dsimp only at h); rcases h with h | h | h | h; exact Or.inl (by first | exact h | omega); exact Or.inr (Or.inl (by first | exact h | omega)); exact Or.inr (Or.inr (Or.inl (by first | exact h | omega))); exact Or.inr (Or.inr (Or.inr (by first | exact h | omega)))) (fun i h => by (try dsimp only at h); exact Or.inl (by first | exact h | omega))) f10 (fun i k h => by (try dsimp only at h); rcases h with h | h | h | h; exact Or.inl (by first | exact h | omega); exact Or.inr (Or.inl (by first | exact h | omega)); exact Or.inr (Or.inr (Or.inl (by first | exact h | omega))); exact Or.inr (Or.inr (Or.inr (by first | exact h | omega)))) (fun i h => by (try dsimp only at h); exact Or.inl (by first | exact h | omega))) f17 (fun i k h => h.elim) (fun i h => by (try dsimp only at h); exact Or.inr (by first | exact h | omega)))
set_option maxRecDepth 100000 in
set_option maxHeartbeats 4000000 in
theorem wq_ld_fillPieces (n : Nat) (hn : 4294967297 < n) (a1 : Nat) (a2 : Nat) (σ : wt_St) : wt_T (wp_ld_fillPieces n a1 a2 σ) (fun q => wt_fr (fun i k => (i = 1 ∧ k = 5) ∨ (i = 1 ∧ k = 4) ∨ (i = 1 ∧ k = 6) ∨ (i = 1 ∧ k = 7)) (fun i => i = 3 ∨ i = a1 ∨ i = a2) σ q.2) := by
  unfold wp_ld_fillPieces
  refine wt_T_bi (wq_tp_takeLetter n hn σ) (fun r1 h2 => ?_)
  have f3 := h2
  have bb4 := wt_bd r1.1
  refine wt_T_if (fun h5 => ?_) (fun h5 => ?_)
  · skip
    have c6 := wt_ceq h5
    rw [wt_lm1] at c6
    refine wt_T_some ?_
    exact (wt_fr.tr wt_fr.rf f3 (fun i k h => by (try dsimp only at h); rcases h with h | h | h | h; exact Or.inl (by first | exact h | omega); exact Or.inr (Or.inl (by first | exact h | omega)); exact Or.inr (Or.inr (Or.inl (by first | exact h | omega))); exact Or.inr (Or.inr (Or.inr (by first | exact h | omega)))) (fun i h => by (try dsimp only at h); exact Or.inl (by first | exact h | omega)))
  · skip
    have c7 := wt_nceq h5
    rw [wt_lm1] at c7
    refine wt_T_bi (wq_ap_look n hn a1 r1.1 r1.2) (fun r8 h9 => ?_)
    obtain ⟨e10, e10v⟩ := h9
    have e11 := wt_ceq e10v
    have bb12 := wt_bd (wt_lk a1 r1.1 r1.2)
    have bb13 := wt_bd r8.1
    rw [e10]
    refine wt_T_bi (wq_tp_takeNumber n hn (1 : Int32) ((12 : Int32) - r8.1) r1.2) (fun r14 h15 => ?_)
    have f16 := h15
    have bb17 := wt_bd r14.1
    refine wt_T_if (fun h18 => ?_) (fun h18 => ?_)
    · skip
      have c19 := wt_ceq h18
      rw [wt_lm1] at c19
      refine wt_T_some ?_
      exact (wt_fr.tr (wt_fr.tr wt_fr.rf f3 (fun i k h => by (try dsimp only at h); rcases h with h | h | h | h; exact Or.inl (by first | exact h | omega); exact Or.inr (Or.inl (by first | exact h | omega)); exact Or.inr (Or.inr (Or.inl (by first | exact h | omega))); exact Or.inr (Or.inr (Or.inr (by first | exact h | omega)))) (fun i h => by (try dsimp only at h); exact Or.inl (by first | exact h | omega))) f16 (fun i k h => by (try dsimp only at h); rcases h with h | h | h | h; exact Or.inl (by first | exact h | omega); exact Or.inr (Or.inl (by first | exact h | omega)); exact Or.inr (Or.inr (Or.inl (by first | exact h | omega))); exact Or.inr (Or.inr (Or.inr (by first | exact h | omega)))) (fun i h => h.elim))
    · skip
      have c20 := wt_nceq h18
      rw [wt_lm1] at c20
      refine wt_T_bi (wq_tp_takeNumber n hn (1 : Int32) (400 : Int32) r14.2) (fun r21 h22 => ?_)
      have f23 := h22
      have bb24 := wt_bd r21.1
      refine wt_T_if (fun h25 => ?_) (fun h25 => ?_)
      · skip
        have c26 := wt_ceq h25
        rw [wt_lm1] at c26
        refine wt_T_some ?_
        exact (wt_fr.tr (wt_fr.tr (wt_fr.tr wt_fr.rf f3 (fun i k h => by (try dsimp only at h); rcases h with h | h | h | h; exact Or.inl (by first | exact h | omega); exact Or.inr (Or.inl (by first | exact h | omega)); exact Or.inr (Or.inr (Or.inl (by first | exact h | omega))); exact Or.inr (Or.inr (Or.inr (by first | exact h | omega)))) (fun i h => by (try dsimp only at h); exact Or.inl (by first | exact h | omega))) f16 (fun i k h => by (try dsimp only at h); rcases h with h | h | h | h; exact Or.inl (by first | exact h | omega); exact Or.inr (Or.inl (by first | exact h | omega)); exact Or.inr (Or.inr (Or.inl (by first | exact h | omega))); exact Or.inr (Or.inr (Or.inr (by first | exact h | omega)))) (fun i h => h.elim)) f23 (fun i k h => by (try dsimp only at h); rcases h with h | h | h | h; exact Or.inl (by first | exact h | omega); exact Or.inr (Or.inl (by first | exact h | omega)); exact Or.inr (Or.inr (Or.inl (by first | exact h | omega))); exact Or.inr (Or.inr (Or.inr (by first | exact h | omega)))) (fun i h => h.elim))
      · skip
        have c27 := wt_nceq h25
        rw [wt_lm1] at c27
        refine wt_T_it (fun s : Int32 × wt_St => wt_fr (fun i k => False) (fun i => i = a2) r21.2 s.2) (fun s : Int32 × wt_St => ((r8.1 + r14.1).toInt - s.1.toInt + 0).toNat) (fun KK28 z29 I30 hKK28 => ?_) _ _ ?_ ?_
        · skip
          have l31 := I30
          unfold wp_ld_fillPieces_B61
          obtain ⟨j32, j32a, j32b⟩ := wt_addI r8.1 r14.1
          have bb33 := wt_bd z29.1
          refine wt_T_if (fun h34 => ?_) (fun h34 => ?_)
          · skip
            have c35 := wt_cle h34
            refine wt_T_bi (wq_ap_put n hn a1 r1.1 (r8.1 + r14.1) z29.2) (fun r36 h37 => ?_)
            have f38 := h37
            refine wt_T_some ?_
            exact (wt_fr.tr (wt_fr.tr (wt_fr.tr (wt_fr.tr (wt_fr.tr wt_fr.rf f3 (fun i k h => by (try dsimp only at h); rcases h with h | h | h | h; exact Or.inl (by first | exact h | omega); exact Or.inr (Or.inl (by first | exact h | omega)); exact Or.inr (Or.inr (Or.inl (by first | exact h | omega))); exact Or.inr (Or.inr (Or.inr (by first | exact h | omega)))) (fun i h => by (try dsimp only at h); exact Or.inl (by first | exact h | omega))) f16 (fun i k h => by (try dsimp only at h); rcases h with h | h | h | h; exact Or.inl (by first | exact h | omega); exact Or.inr (Or.inl (by first | exact h | omega)); exact Or.inr (Or.inr (Or.inl (by first | exact h | omega))); exact Or.inr (Or.inr (Or.inr (by first | exact h | omega)))) (fun i h => h.elim)) f23 (fun i k h => by (try dsimp only at h); rcases h with h | h | h | h; exact Or.inl (by first | exact h | omega); exact Or.inr (Or.inl (by first | exact h | omega)); exact Or.inr (Or.inr (Or.inl (by first | exact h | omega))); exact Or.inr (Or.inr (Or.inr (by first | exact h | omega)))) (fun i h => h.elim)) l31 (fun i k h => h.elim) (fun i h => by (try dsimp only at h); exact Or.inr (Or.inr (by first | exact h | omega)))) f38 (fun i k h => h.elim) (fun i h => by (try dsimp only at h); exact Or.inr (Or.inl (by first | exact h | omega))))
          · skip
            have c39 := wt_ncle h34
            refine wt_T_bi (wq_ap_put n hn a2 ((r1.1 * (12 : Int32)) + z29.1) r21.1 z29.2) (fun r40 h41 => ?_)
            have f42 := h41
            refine hKK28 _ (wt_fr.tr (wt_fr.tr wt_fr.rf l31 (fun i k h => h.elim) (fun i h => by (try dsimp only at h); exact (by first | exact h | omega))) f42 (fun i k h => h.elim) (fun i h => by (try dsimp only at h); exact (by first | exact h | omega))) ?_
            show ((r8.1 + r14.1).toInt - (z29.1 + (1 : Int32)).toInt + 0).toNat < ((r8.1 + r14.1).toInt - z29.1.toInt + 0).toNat
            exact wt_mu (by omega) (by omega)
        · skip
          obtain ⟨j43, j43a, j43b⟩ := wt_addI r8.1 r14.1
          exact wt_fr.rf
        · skip
          obtain ⟨j44, j44a, j44b⟩ := wt_addI r8.1 r14.1
          show ((r8.1 + r14.1).toInt - r8.1.toInt + 0).toNat < n
          omega
set_option maxRecDepth 100000 in
set_option maxHeartbeats 4000000 in
theorem wq_ld_fillPrice (n : Nat) (hn : 4294967297 < n) (t0 : Nat) (σ : wt_St) : wt_T (wp_ld_fillPrice n t0 σ) (fun q => wt_fr (fun i k => (i = 1 ∧ k = 5) ∨ (i = 1 ∧ k = 4) ∨ (i = 1 ∧ k = 6) ∨ (i = 1 ∧ k = 7)) (fun i => i = 3 ∨ i = t0 + 5) σ q.2) := by
  unfold wp_ld_fillPrice
  refine wt_T_bi (wq_tp_takeLetter n hn σ) (fun r1 h2 => ?_)
  have f3 := h2
  have bb4 := wt_bd r1.1
  refine wt_T_if (fun h5 => ?_) (fun h5 => ?_)
  · skip
    have c6 := wt_ceq h5
    rw [wt_lm1] at c6
    refine wt_T_some ?_
    exact (wt_fr.tr wt_fr.rf f3 (fun i k h => by (try dsimp only at h); rcases h with h | h | h | h; exact Or.inl (by first | exact h | omega); exact Or.inr (Or.inl (by first | exact h | omega)); exact Or.inr (Or.inr (Or.inl (by first | exact h | omega))); exact Or.inr (Or.inr (Or.inr (by first | exact h | omega)))) (fun i h => by (try dsimp only at h); exact Or.inl (by first | exact h | omega)))
  · skip
    have c7 := wt_nceq h5
    rw [wt_lm1] at c7
    refine wt_T_bi (wq_tp_takeNumber n hn (0 : Int32) (99 : Int32) r1.2) (fun r8 h9 => ?_)
    have f10 := h9
    have bb11 := wt_bd r8.1
    refine wt_T_if (fun h12 => ?_) (fun h12 => ?_)
    · skip
      have c13 := wt_ceq h12
      rw [wt_lm1] at c13
      refine wt_T_some ?_
      exact (wt_fr.tr (wt_fr.tr wt_fr.rf f3 (fun i k h => by (try dsimp only at h); rcases h with h | h | h | h; exact Or.inl (by first | exact h | omega); exact Or.inr (Or.inl (by first | exact h | omega)); exact Or.inr (Or.inr (Or.inl (by first | exact h | omega))); exact Or.inr (Or.inr (Or.inr (by first | exact h | omega)))) (fun i h => by (try dsimp only at h); exact Or.inl (by first | exact h | omega))) f10 (fun i k h => by (try dsimp only at h); rcases h with h | h | h | h; exact Or.inl (by first | exact h | omega); exact Or.inr (Or.inl (by first | exact h | omega)); exact Or.inr (Or.inr (Or.inl (by first | exact h | omega))); exact Or.inr (Or.inr (Or.inr (by first | exact h | omega)))) (fun i h => h.elim))
    · skip
      have c14 := wt_nceq h12
      rw [wt_lm1] at c14
      refine wt_T_bi (wq_ap_put n hn (t0 + 5) r1.1 r8.1 r8.2) (fun r15 h16 => ?_)
      have f17 := h16
      refine wt_T_some ?_
      exact (wt_fr.tr (wt_fr.tr (wt_fr.tr wt_fr.rf f3 (fun i k h => by (try dsimp only at h); rcases h with h | h | h | h; exact Or.inl (by first | exact h | omega); exact Or.inr (Or.inl (by first | exact h | omega)); exact Or.inr (Or.inr (Or.inl (by first | exact h | omega))); exact Or.inr (Or.inr (Or.inr (by first | exact h | omega)))) (fun i h => by (try dsimp only at h); exact Or.inl (by first | exact h | omega))) f10 (fun i k h => by (try dsimp only at h); rcases h with h | h | h | h; exact Or.inl (by first | exact h | omega); exact Or.inr (Or.inl (by first | exact h | omega)); exact Or.inr (Or.inr (Or.inl (by first | exact h | omega))); exact Or.inr (Or.inr (Or.inr (by first | exact h | omega)))) (fun i h => h.elim)) f17 (fun i k h => h.elim) (fun i h => by (try dsimp only at h); exact Or.inr (by first | exact h | omega)))
set_option maxRecDepth 100000 in
set_option maxHeartbeats 4000000 in
theorem wq_tp_wordIs (n : Nat) (hn : 4294967297 < n) (bs1 : List Int32) (σ : wt_St) (hl : bs1.length < 1000) : wt_T (wp_tp_wordIs n bs1 σ) (fun q => q.2 = σ) := by
  unfold wp_tp_wordIs
  refine wt_T_bi (wq_tp_wordLength n hn σ) (fun r1 h2 => ?_)
  have e3 := h2
  rw [e3]
  have bb4 := wt_bd r1.1
  have bb5 := nI_toInt (n := bs1.length) (by omega)
  refine wt_T_if (fun h6 => ?_) (fun h6 => ?_)
  · skip
    have c7 := wt_ceq h6
    have k13 : (0 : Int32).toInt = 0 := by decide
    refine wt_T_it (fun s : Int32 × wt_St => s.2 = σ ∧ 0 ≤ (s.1).toInt) (fun s : Int32 × wt_St => ((nI bs1.length).toInt - s.1.toInt + 0).toNat) (fun KK8 z9 I10 hKK8 => ?_) _ _ ?_ ?_
    · skip
      obtain ⟨l11, l12⟩ := I10
      unfold wp_tp_wordIs_B15
      rw [l11]
      have bb14 := wt_bd z9.1
      refine wt_T_if (fun h15 => ?_) (fun h15 => ?_)
      · skip
        have c16 := wt_cle h15
        refine wt_T_some ?_
        exact rfl
      · skip
        have c17 := wt_ncle h15
        refine wt_T_bi (wq_ap_look n hn 2 ((wt_gf σ 1 5) + z9.1) σ) (fun r18 h19 => ?_)
        obtain ⟨e20, e20v⟩ := h19
        have e21 := wt_ceq e20v
        have bb22 := wt_bd (wt_lk 2 ((wt_gf σ 1 5) + z9.1) σ)
        have bb23 := wt_bd r18.1
        rw [e20]
        refine wt_T_gd (wt_ix (by omega) (by omega)) ?_
        have bb24 := wt_bd (wt_ch bs1 z9.1)
        refine wt_T_if (fun h25 => ?_) (fun h25 => ?_)
        · skip
          have c26 := wt_ceq h25
          refine hKK8 _ ⟨rfl, (wt_nn (B := nI bs1.length) (by omega) (by first | (rw [l11]; omega) | (rw [l11]; done) | omega))⟩ ?_
          show ((nI bs1.length).toInt - (z9.1 + (1 : Int32)).toInt + 0).toNat < ((nI bs1.length).toInt - z9.1.toInt + 0).toNat
          exact wt_mu (by first | (rw [l11]; omega) | (rw [l11]; done) | omega) (by first | (rw [l11]; omega) | (rw [l11]; done) | omega)
        · skip
          have c27 := wt_nceq h25
          refine wt_T_some ?_
          exact rfl
    · skip
      exact ⟨rfl, (show 0 ≤ ((0 : Int32)).toInt by omega)⟩
    · skip
      show ((nI bs1.length).toInt - (0 : Int32).toInt + 0).toNat < n
      omega
  · skip
    have c28 := wt_nceq h6
    refine wt_T_some ?_
    exact rfl
set_option maxRecDepth 100000 in
set_option maxHeartbeats 4000000 in
theorem wq_ld_namesClause (n : Nat) (hn : 4294967297 < n) (σ : wt_St) : wt_T (wp_ld_namesClause n σ) (fun q => q.2 = σ) := by
  unfold wp_ld_namesClause
  refine wt_T_bi (wq_tp_wordIs n hn [108, 101, 116, 116, 101, 114] σ (by decide)) (fun r1 h2 => ?_)
  have e3 := h2
  rw [e3]
  have bb4 := wt_bd r1.1
  have k5 : (0 : Int32).toInt = 0 := by decide
  refine wt_T_if (fun h6 => ?_) (fun h6 => ?_)
  · skip
    have c7 := wt_ceq h6
    refine wt_T_bi (wq_tp_wordIs n hn [116, 104, 101, 114, 101] σ (by decide)) (fun r8 h9 => ?_)
    have e10 := h9
    rw [e10]
    have bb11 := wt_bd r8.1
    refine wt_T_if (fun h12 => ?_) (fun h12 => ?_)
    · skip
      have c13 := wt_ceq h12
      refine wt_T_bi (wq_tp_wordIs n hn [112, 114, 105, 99, 101] σ (by decide)) (fun r14 h15 => ?_)
      have e16 := h15
      rw [e16]
      have bb17 := wt_bd r14.1
      refine wt_T_if (fun h18 => ?_) (fun h18 => ?_)
      · skip
        have c19 := wt_ceq h18
        refine wt_T_bi (wq_tp_wordIs n hn [102, 97, 105, 110, 116] σ (by decide)) (fun r20 h21 => ?_)
        have e22 := h21
        rw [e22]
        have bb23 := wt_bd r20.1
        refine wt_T_if (fun h24 => ?_) (fun h24 => ?_)
        · skip
          have c25 := wt_ceq h24
          refine wt_T_bi (wq_tp_wordIs n hn [108, 105, 107, 101] σ (by decide)) (fun r26 h27 => ?_)
          have e28 := h27
          rw [e28]
          have bb29 := wt_bd r26.1
          refine wt_T_if (fun h30 => ?_) (fun h30 => ?_)
          · skip
            have c31 := wt_ceq h30
            refine wt_T_bi (wq_tp_wordIs n hn [102, 111, 108, 108, 111, 119] σ (by decide)) (fun r32 h33 => ?_)
            have e34 := h33
            rw [e34]
            have bb35 := wt_bd r32.1
            refine wt_T_if (fun h36 => ?_) (fun h36 => ?_)
            · skip
              have c37 := wt_ceq h36
              refine wt_T_some ?_
              exact rfl
            · skip
              have c38 := wt_nceq h36
              refine wt_T_some ?_
              exact rfl
          · skip
            have c39 := wt_nceq h30
            refine wt_T_some ?_
            exact rfl
        · skip
          have c40 := wt_nceq h24
          refine wt_T_some ?_
          exact rfl
      · skip
        have c41 := wt_nceq h18
        refine wt_T_some ?_
        exact rfl
    · skip
      have c42 := wt_nceq h12
      refine wt_T_some ?_
      exact rfl
  · skip
    have c43 := wt_nceq h6
    refine wt_T_some ?_
    exact rfl
set_option maxRecDepth 100000 in
set_option maxHeartbeats 4000000 in
theorem wq_ld_fillClause (n : Nat) (hn : 4294967297 < n) (t0 : Nat) (x2 : Int32) (σ : wt_St) : wt_T (wp_ld_fillClause n t0 x2 σ) (fun q => wt_fr (fun i k => (i = 1 ∧ k = 5) ∨ (i = 1 ∧ k = 4) ∨ (i = 1 ∧ k = 6) ∨ (i = 1 ∧ k = 7) ∨ (i = t0 ∧ k = 7)) (fun i => i = 3 ∨ i = t0 + 7 ∨ i = t0 + 6 ∨ i = t0 + 5 ∨ i = t0 + 3 ∨ i = t0 + 4 ∨ i = t0 + 1 ∨ i = t0 + 2) σ q.2) := by
  unfold wp_ld_fillClause
  refine wt_T_bi (wq_tp_takeWord n hn σ) (fun r1 h2 => ?_)
  have f3 := h2
  have bb4 := wt_bd r1.1
  have k5 : (0 : Int32).toInt = 0 := by decide
  refine wt_T_if (fun h6 => ?_) (fun h6 => ?_)
  · skip
    have c7 := wt_ceq h6
    refine wt_T_some ?_
    exact (wt_fr.tr wt_fr.rf f3 (fun i k h => by (try dsimp only at h); rcases h with h | h | h | h; exact Or.inl (by first | exact h | omega); exact Or.inr (Or.inl (by first | exact h | omega)); exact Or.inr (Or.inr (Or.inl (by first | exact h | omega))); exact Or.inr (Or.inr (Or.inr (Or.inl (by first | exact h | omega))))) (fun i h => by (try dsimp only at h); exact Or.inl (by first | exact h | omega)))
  · skip
    have c8 := wt_nceq h6
    refine wt_T_bi (wq_ld_namesClause n hn r1.2) (fun r9 h10 => ?_)
    have e11 := h10
    rw [e11]
    have bb12 := wt_bd r9.1
    refine wt_T_if (fun h13 => ?_) (fun h13 => ?_)
    · skip
      have c14 := wt_ceq h13
      refine wt_T_bi (wq_tp_fail n hn (1 : Int32) r1.2) (fun r15 h16 => ?_)
      have f17 := h16
      refine wt_T_some ?_
      exact (wt_fr.tr (wt_fr.tr wt_fr.rf f3 (fun i k h => by (try dsimp only at h); rcases h with h | h | h | h; exact Or.inl (by first | exact h | omega); exact Or.inr (Or.inl (by first | exact h | omega)); exact Or.inr (Or.inr (Or.inl (by first | exact h | omega))); exact Or.inr (Or.inr (Or.inr (Or.inl (by first | exact h | omega))))) (fun i h => by (try dsimp only at h); exact Or.inl (by first | exact h | omega))) f17 (fun i k h => by (try dsimp only at h); rcases h with h | h; exact Or.inr (Or.inr (Or.inl (by first | exact h | omega))); exact Or.inr (Or.inr (Or.inr (Or.inl (by first | exact h | omega))))) (fun i h => h.elim))
    · skip
      have c18 := wt_nceq h13
      have bb19 := wt_bd x2
      have k20 : (60 : Int32).toInt = 60 := by decide
      refine wt_T_if (fun h21 => ?_) (fun h21 => ?_)
      · skip
        have c22 := wt_clt h21
        refine wt_T_bi (wq_tp_wordIs n hn [108, 101, 116, 116, 101, 114] r1.2 (by decide)) (fun r23 h24 => ?_)
        have e25 := h24
        rw [e25]
        have bb26 := wt_bd r23.1
        refine wt_T_if (fun h27 => ?_) (fun h27 => ?_)
        · skip
          have c28 := wt_ceq h27
          refine wt_T_bi (wq_tp_wordIs n hn [116, 104, 101, 114, 101] r1.2 (by decide)) (fun r29 h30 => ?_)
          have e31 := h30
          rw [e31]
          have bb32 := wt_bd r29.1
          refine wt_T_if (fun h33 => ?_) (fun h33 => ?_)
          · skip
            have c34 := wt_ceq h33
            refine wt_T_bi (wq_tp_wordIs n hn [112, 114, 105, 99, 101] r1.2 (by decide)) (fun r35 h36 => ?_)
            have e37 := h36
            rw [e37]
            have bb38 := wt_bd r35.1
            refine wt_T_if (fun h39 => ?_) (fun h39 => ?_)
            · skip
              have c40 := wt_ceq h39
              refine wt_T_bi (wq_tp_wordIs n hn [102, 97, 105, 110, 116] r1.2 (by decide)) (fun r41 h42 => ?_)
              have e43 := h42
              rw [e43]
              have bb44 := wt_bd r41.1
              refine wt_T_if (fun h45 => ?_) (fun h45 => ?_)
              · skip
                have c46 := wt_ceq h45
                refine wt_T_bi (wq_tp_wordIs n hn [108, 105, 107, 101] r1.2 (by decide)) (fun r47 h48 => ?_)
                have e49 := h48
                rw [e49]
                have bb50 := wt_bd r47.1
                refine wt_T_if (fun h51 => ?_) (fun h51 => ?_)
                · skip
                  have c52 := wt_ceq h51
                  refine wt_T_bi (wq_ld_fillFollow n hn t0 r1.2) (fun r53 h54 => ?_)
                  have f55 := h54
                  refine wt_T_some ?_
                  exact (wt_fr.tr (wt_fr.tr wt_fr.rf f3 (fun i k h => by (try dsimp only at h); rcases h with h | h | h | h; exact Or.inl (by first | exact h | omega); exact Or.inr (Or.inl (by first | exact h | omega)); exact Or.inr (Or.inr (Or.inl (by first | exact h | omega))); exact Or.inr (Or.inr (Or.inr (Or.inl (by first | exact h | omega))))) (fun i h => by (try dsimp only at h); exact Or.inl (by first | exact h | omega))) f55 (fun i k h => by (try dsimp only at h); rcases h with h | h | h | h; exact Or.inl (by first | exact h | omega); exact Or.inr (Or.inl (by first | exact h | omega)); exact Or.inr (Or.inr (Or.inl (by first | exact h | omega))); exact Or.inr (Or.inr (Or.inr (Or.inl (by first | exact h | omega))))) (fun i h => by (try dsimp only at h); exact Or.inr (Or.inl (by first | exact h | omega))))
                · skip
                  have c56 := wt_nceq h51
                  refine wt_T_bi (wq_ld_fillLike n hn t0 r1.2) (fun r57 h58 => ?_)
                  have f59 := h58
                  refine wt_T_some ?_
                  exact (wt_fr.tr (wt_fr.tr wt_fr.rf f3 (fun i k h => by (try dsimp only at h); rcases h with h | h | h | h; exact Or.inl (by first | exact h | omega); exact Or.inr (Or.inl (by first | exact h | omega)); exact Or.inr (Or.inr (Or.inl (by first | exact h | omega))); exact Or.inr (Or.inr (Or.inr (Or.inl (by first | exact h | omega))))) (fun i h => by (try dsimp only at h); exact Or.inl (by first | exact h | omega))) f59 (fun i k h => by (try dsimp only at h); rcases h with h | h | h | h; exact Or.inl (by first | exact h | omega); exact Or.inr (Or.inl (by first | exact h | omega)); exact Or.inr (Or.inr (Or.inl (by first | exact h | omega))); exact Or.inr (Or.inr (Or.inr (Or.inl (by first | exact h | omega))))) (fun i h => by (try dsimp only at h); rcases h with h | h; exact Or.inl (by first | exact h | omega); exact Or.inr (Or.inr (Or.inl (by first | exact h | omega)))))
              · skip
                have c60 := wt_nceq h45
                refine wt_T_bi (wq_ld_fillFaint n hn t0 r1.2) (fun r61 h62 => ?_)
                have f63 := h62
                refine wt_T_some ?_
                exact (wt_fr.tr (wt_fr.tr wt_fr.rf f3 (fun i k h => by (try dsimp only at h); rcases h with h | h | h | h; exact Or.inl (by first | exact h | omega); exact Or.inr (Or.inl (by first | exact h | omega)); exact Or.inr (Or.inr (Or.inl (by first | exact h | omega))); exact Or.inr (Or.inr (Or.inr (Or.inl (by first | exact h | omega))))) (fun i h => by (try dsimp only at h); exact Or.inl (by first | exact h | omega))) f63 (fun i k h => by (try dsimp only at h); rcases h with h | h | h | h | h; exact Or.inl (by first | exact h | omega); exact Or.inr (Or.inl (by first | exact h | omega)); exact Or.inr (Or.inr (Or.inl (by first | exact h | omega))); exact Or.inr (Or.inr (Or.inr (Or.inl (by first | exact h | omega)))); exact Or.inr (Or.inr (Or.inr (Or.inr (by first | exact h | omega))))) (fun i h => h.elim))
            · skip
              have c64 := wt_nceq h39
              refine wt_T_bi (wq_ld_fillPrice n hn t0 r1.2) (fun r65 h66 => ?_)
              have f67 := h66
              refine wt_T_some ?_
              exact (wt_fr.tr (wt_fr.tr wt_fr.rf f3 (fun i k h => by (try dsimp only at h); rcases h with h | h | h | h; exact Or.inl (by first | exact h | omega); exact Or.inr (Or.inl (by first | exact h | omega)); exact Or.inr (Or.inr (Or.inl (by first | exact h | omega))); exact Or.inr (Or.inr (Or.inr (Or.inl (by first | exact h | omega))))) (fun i h => by (try dsimp only at h); exact Or.inl (by first | exact h | omega))) f67 (fun i k h => by (try dsimp only at h); rcases h with h | h | h | h; exact Or.inl (by first | exact h | omega); exact Or.inr (Or.inl (by first | exact h | omega)); exact Or.inr (Or.inr (Or.inl (by first | exact h | omega))); exact Or.inr (Or.inr (Or.inr (Or.inl (by first | exact h | omega))))) (fun i h => by (try dsimp only at h); rcases h with h | h; exact Or.inl (by first | exact h | omega); exact Or.inr (Or.inr (Or.inr (Or.inl (by first | exact h | omega))))))
          · skip
            have c68 := wt_nceq h33
            refine wt_T_bi (wq_ld_fillPieces n hn (t0 + 3) (t0 + 4) r1.2) (fun r69 h70 => ?_)
            have f71 := h70
            refine wt_T_some ?_
            exact (wt_fr.tr (wt_fr.tr wt_fr.rf f3 (fun i k h => by (try dsimp only at h); rcases h with h | h | h | h; exact Or.inl (by first | exact h | omega); exact Or.inr (Or.inl (by first | exact h | omega)); exact Or.inr (Or.inr (Or.inl (by first | exact h | omega))); exact Or.inr (Or.inr (Or.inr (Or.inl (by first | exact h | omega))))) (fun i h => by (try dsimp only at h); exact Or.inl (by first | exact h | omega))) f71 (fun i k h => by (try dsimp only at h); rcases h with h | h | h | h; exact Or.inl (by first | exact h | omega); exact Or.inr (Or.inl (by first | exact h | omega)); exact Or.inr (Or.inr (Or.inl (by first | exact h | omega))); exact Or.inr (Or.inr (Or.inr (Or.inl (by first | exact h | omega))))) (fun i h => by (try dsimp only at h); rcases h with h | h | h; exact Or.inl (by first | exact h | omega); exact Or.inr (Or.inr (Or.inr (Or.inr (Or.inl (by first | exact h | omega))))); exact Or.inr (Or.inr (Or.inr (Or.inr (Or.inr (Or.inl (by first | exact h | omega))))))))
        · skip
          have c72 := wt_nceq h27
          refine wt_T_bi (wq_ld_fillPieces n hn (t0 + 1) (t0 + 2) r1.2) (fun r73 h74 => ?_)
          have f75 := h74
          refine wt_T_some ?_
          exact (wt_fr.tr (wt_fr.tr wt_fr.rf f3 (fun i k h => by (try dsimp only at h); rcases h with h | h | h | h; exact Or.inl (by first | exact h | omega); exact Or.inr (Or.inl (by first | exact h | omega)); exact Or.inr (Or.inr (Or.inl (by first | exact h | omega))); exact Or.inr (Or.inr (Or.inr (Or.inl (by first | exact h | omega))))) (fun i h => by (try dsimp only at h); exact Or.inl (by first | exact h | omega))) f75 (fun i k h => by (try dsimp only at h); rcases h with h | h | h | h; exact Or.inl (by first | exact h | omega); exact Or.inr (Or.inl (by first | exact h | omega)); exact Or.inr (Or.inr (Or.inl (by first | exact h | omega))); exact Or.inr (Or.inr (Or.inr (Or.inl (by first | exact h | omega))))) (fun i h => by (try dsimp only at h); rcases h with h | h | h; exact Or.inl (by first | exact h | omega); exact Or.inr (Or.inr (Or.inr (Or.inr (Or.inr (Or.inr (Or.inl (by first | exact h | omega))))))); exact Or.inr (Or.inr (Or.inr (Or.inr (Or.inr (Or.inr (Or.inr (by first | exact h | omega)))))))))
      · skip
        have c76 := wt_ncl h21
        refine wt_T_bi (wq_tp_fail n hn (3 : Int32) r1.2) (fun r77 h78 => ?_)
        have f79 := h78
        refine wt_T_some ?_
        exact (wt_fr.tr (wt_fr.tr wt_fr.rf f3 (fun i k h => by (try dsimp only at h); rcases h with h | h | h | h; exact Or.inl (by first | exact h | omega); exact Or.inr (Or.inl (by first | exact h | omega)); exact Or.inr (Or.inr (Or.inl (by first | exact h | omega))); exact Or.inr (Or.inr (Or.inr (Or.inl (by first | exact h | omega))))) (fun i h => by (try dsimp only at h); exact Or.inl (by first | exact h | omega))) f79 (fun i k h => by (try dsimp only at h); rcases h with h | h; exact Or.inr (Or.inr (Or.inl (by first | exact h | omega))); exact Or.inr (Or.inr (Or.inr (Or.inl (by first | exact h | omega))))) (fun i h => h.elim))
set_option maxRecDepth 100000 in
set_option maxHeartbeats 4000000 in
theorem wq_tp_takeSign (n : Nat) (hn : 4294967297 < n) (x1 : Int32) (σ : wt_St) : wt_T (wp_tp_takeSign n x1 σ) (fun q => wt_fr (fun i k => (i = 1 ∧ k = 5) ∨ (i = 1 ∧ k = 4)) (fun i => False) σ q.2) := by
  unfold wp_tp_takeSign
  refine wt_T_bi (wq_tp_skipBlanks n hn σ) (fun r1 h2 => ?_)
  have f3 := h2
  have bb4 := wt_bd (wt_gf r1 1 3)
  have tt5 : (wt_gf r1 1 3).toInt = (wt_gf σ 1 3).toInt := congrArg Int32.toInt (f3.1 1 3 (by (try dsimp only); omega))
  have bb6 := wt_bd (wt_gf σ 1 3)
  have bb7 := wt_bd (wt_gf r1 1 4)
  refine wt_T_if (fun h8 => ?_) (fun h8 => ?_)
  · skip
    have c9 := wt_cle h8
    refine wt_T_some ?_
    exact (wt_fr.tr wt_fr.rf f3 (fun i k h => by (try dsimp only at h); rcases h with h | h; exact Or.inl (by first | exact h | omega); exact Or.inr (by first | exact h | omega)) (fun i h => h.elim))
  · skip
    have c10 := wt_ncle h8
    refine wt_T_bi (wq_ap_look n hn 2 (wt_gf r1 1 4) r1) (fun r11 h12 => ?_)
    obtain ⟨e13, e13v⟩ := h12
    have e14 := wt_ceq e13v
    have bb15 := wt_bd (wt_lk 2 (wt_gf r1 1 4) r1)
    have bb16 := wt_bd r11.1
    rw [e13]
    have bb17 := wt_bd x1
    refine wt_T_if (fun h18 => ?_) (fun h18 => ?_)
    · skip
      have c19 := wt_ceq h18
      obtain ⟨σ20, eσ20⟩ : ∃ z : wt_St, z = wt_sf r1 1 4 ((wt_gf r1 1 4) + (1 : Int32)) := ⟨_, rfl⟩
      rw [← eσ20]
      have fσ20 := wt_fr_sf eσ20
      have vσ20 := wt_ceq (wt_v_sf eσ20)
      refine wt_T_some ?_
      exact (wt_fr.tr (wt_fr.tr wt_fr.rf f3 (fun i k h => by (try dsimp only at h); rcases h with h | h; exact Or.inl (by first | exact h | omega); exact Or.inr (by first | exact h | omega)) (fun i h => h.elim)) fσ20 (fun i k h => by (try dsimp only at h); exact Or.inr (by first | exact h | omega)) (fun i h => h.elim))
    · skip
      have c21 := wt_nceq h18
      refine wt_T_some ?_
      exact (wt_fr.tr wt_fr.rf f3 (fun i k h => by (try dsimp only at h); rcases h with h | h; exact Or.inl (by first | exact h | omega); exact Or.inr (by first | exact h | omega)) (fun i h => h.elim))
set_option maxRecDepth 100000 in
set_option maxHeartbeats 4000000 in
theorem wq_tp_needSign (n : Nat) (hn : 4294967297 < n) (x1 : Int32) (σ : wt_St) : wt_T (wp_tp_needSign n x1 σ) (fun q => wt_fr (fun i k => (i = 1 ∧ k = 5) ∨ (i = 1 ∧ k = 4) ∨ (i = 1 ∧ k = 6) ∨ (i = 1 ∧ k = 7)) (fun i => False) σ q.2) := by
  unfold wp_tp_needSign
  refine wt_T_bi (wq_tp_takeSign n hn x1 σ) (fun r1 h2 => ?_)
  have f3 := h2
  have bb4 := wt_bd r1.1
  have k5 : (0 : Int32).toInt = 0 := by decide
  refine wt_T_if (fun h6 => ?_) (fun h6 => ?_)
  · skip
    have c7 := wt_ceq h6
    refine wt_T_bi (wq_tp_fail n hn (1 : Int32) r1.2) (fun r8 h9 => ?_)
    have f10 := h9
    have bb11 := wt_bd r8.1
    refine wt_T_if (fun h12 => ?_) (fun h12 => ?_)
    · skip
      have c13 := wt_ceq h12
      refine wt_T_some ?_
      exact (wt_fr.tr (wt_fr.tr wt_fr.rf f3 (fun i k h => by (try dsimp only at h); rcases h with h | h; exact Or.inl (by first | exact h | omega); exact Or.inr (Or.inl (by first | exact h | omega))) (fun i h => h.elim)) f10 (fun i k h => by (try dsimp only at h); rcases h with h | h; exact Or.inr (Or.inr (Or.inl (by first | exact h | omega))); exact Or.inr (Or.inr (Or.inr (by first | exact h | omega)))) (fun i h => h.elim))
    · skip
      have c14 := wt_nceq h12
      refine wt_T_some ?_
      exact (wt_fr.tr (wt_fr.tr wt_fr.rf f3 (fun i k h => by (try dsimp only at h); rcases h with h | h; exact Or.inl (by first | exact h | omega); exact Or.inr (Or.inl (by first | exact h | omega))) (fun i h => h.elim)) f10 (fun i k h => by (try dsimp only at h); rcases h with h | h; exact Or.inr (Or.inr (Or.inl (by first | exact h | omega))); exact Or.inr (Or.inr (Or.inr (by first | exact h | omega)))) (fun i h => h.elim))
  · skip
    have c15 := wt_nceq h6
    refine wt_T_some ?_
    exact (wt_fr.tr wt_fr.rf f3 (fun i k h => by (try dsimp only at h); rcases h with h | h; exact Or.inl (by first | exact h | omega); exact Or.inr (Or.inl (by first | exact h | omega))) (fun i h => h.elim))
set_option maxRecDepth 100000 in
set_option maxHeartbeats 4000000 in
theorem wq_tp_over (n : Nat) (hn : 4294967297 < n) (σ : wt_St) : wt_T (wp_tp_over n σ) (fun q => wt_fr (fun i k => (i = 1 ∧ k = 5) ∨ (i = 1 ∧ k = 4)) (fun i => False) σ q.2) := by
  unfold wp_tp_over
  refine wt_T_bi (wq_tp_skipBlanks n hn σ) (fun r1 h2 => ?_)
  have f3 := h2
  have bb4 := wt_bd (wt_gf r1 1 4)
  have bb5 := wt_bd (wt_gf r1 1 3)
  have tt6 : (wt_gf r1 1 3).toInt = (wt_gf σ 1 3).toInt := congrArg Int32.toInt (f3.1 1 3 (by (try dsimp only); omega))
  have bb7 := wt_bd (wt_gf σ 1 3)
  refine wt_T_if (fun h8 => ?_) (fun h8 => ?_)
  · skip
    have c9 := wt_clt h8
    refine wt_T_some ?_
    exact (wt_fr.tr wt_fr.rf f3 (fun i k h => by (try dsimp only at h); rcases h with h | h; exact Or.inl (by first | exact h | omega); exact Or.inr (by first | exact h | omega)) (fun i h => h.elim))
  · skip
    have c10 := wt_ncl h8
    refine wt_T_some ?_
    exact (wt_fr.tr wt_fr.rf f3 (fun i k h => by (try dsimp only at h); rcases h with h | h; exact Or.inl (by first | exact h | omega); exact Or.inr (by first | exact h | omega)) (fun i h => h.elim))
set_option maxRecDepth 100000 in
set_option maxHeartbeats 4000000 in
theorem wq_ld_fill (n : Nat) (hn : 4294967297 < n) (t0 : Nat) (σ : wt_St) : wt_T (wp_ld_fill n t0 σ) (fun q => wt_fr (fun i k => (i = t0 ∧ k = 7) ∨ (i = 1 ∧ k = 5) ∨ (i = 1 ∧ k = 4) ∨ (i = 1 ∧ k = 6) ∨ (i = 1 ∧ k = 7)) (fun i => i = t0 + 1 ∨ i = t0 + 2 ∨ i = t0 + 3 ∨ i = t0 + 4 ∨ i = t0 + 5 ∨ i = t0 + 6 ∨ i = t0 + 7 ∨ i = 3) σ q.2) := by
  unfold wp_ld_fill
  refine wt_T_bi (wq_ld_clear n hn t0 σ) (fun r1 h2 => ?_)
  have f3 := h2
  have k9 : (0 : Int32).toInt = 0 := by decide
  refine wt_T_it (fun s : Int32 × wt_St => wt_fr (fun i k => (i = 1 ∧ k = 5) ∨ (i = 1 ∧ k = 4) ∨ (i = 1 ∧ k = 6) ∨ (i = 1 ∧ k = 7) ∨ (i = t0 ∧ k = 7)) (fun i => i = 3 ∨ i = t0 + 7 ∨ i = t0 + 6 ∨ i = t0 + 5 ∨ i = t0 + 3 ∨ i = t0 + 4 ∨ i = t0 + 1 ∨ i = t0 + 2) r1 s.2 ∧ 0 ≤ (s.1).toInt) (fun s : Int32 × wt_St => ((60 : Int32).toInt - s.1.toInt + 1).toNat) (fun KK4 z5 I6 hKK4 => ?_) _ _ ?_ ?_
  · skip
    obtain ⟨l7, l8⟩ := I6
    unfold wp_ld_fill_B6
    have k10 : (60 : Int32).toInt = 60 := by decide
    have bb11 := wt_bd z5.1
    refine wt_T_if (fun h12 => ?_) (fun h12 => ?_)
    · skip
      have c13 := wt_clt h12
      refine wt_T_some ?_
      exact (wt_fr.tr (wt_fr.tr wt_fr.rf f3 (fun i k h => by (try dsimp only at h); exact Or.inl (by first | exact h | omega)) (fun i h => by (try dsimp only at h); rcases h with h | h | h | h | h | h | h; exact Or.inl (by first | exact h | omega); exact Or.inr (Or.inl (by first | exact h | omega)); exact Or.inr (Or.inr (Or.inl (by first | exact h | omega))); exact Or.inr (Or.inr (Or.inr (Or.inl (by first | exact h | omega)))); exact Or.inr (Or.inr (Or.inr (Or.inr (Or.inl (by first | exact h | omega))))); exact Or.inr (Or.inr (Or.inr (Or.inr (Or.inr (Or.inl (by first | exact h | omega)))))); exact Or.inr (Or.inr (Or.inr (Or.inr (Or.inr (Or.inr (Or.inl (by first | exact h | omega))))))))) l7 (fun i k h => by (try dsimp only at h); rcases h with h | h | h | h | h; exact Or.inr (Or.inl (by first | exact h | omega)); exact Or.inr (Or.inr (Or.inl (by first | exact h | omega))); exact Or.inr (Or.inr (Or.inr (Or.inl (by first | exact h | omega)))); exact Or.inr (Or.inr (Or.inr (Or.inr (by first | exact h | omega)))); exact Or.inl (by first | exact h | omega)) (fun i h => by (try dsimp only at h); rcases h with h | h | h | h | h | h | h | h; exact Or.inr (Or.inr (Or.inr (Or.inr (Or.inr (Or.inr (Or.inr (by first | exact h | omega))))))); exact Or.inr (Or.inr (Or.inr (Or.inr (Or.inr (Or.inr (Or.inl (by first | exact h | omega))))))); exact Or.inr (Or.inr (Or.inr (Or.inr (Or.inr (Or.inl (by first | exact h | omega)))))); exact Or.inr (Or.inr (Or.inr (Or.inr (Or.inl (by first | exact h | omega))))); exact Or.inr (Or.inr (Or.inl (by first | exact h | omega))); exact Or.inr (Or.inr (Or.inr (Or.inl (by first | exact h | omega)))); exact Or.inl (by first | exact h | omega); exact Or.inr (Or.inl (by first | exact h | omega))))
    · skip
      have c14 := wt_ncl h12
      refine wt_T_bi (wq_tp_over n hn z5.2) (fun r15 h16 => ?_)
      have f17 := h16
      have bb18 := wt_bd r15.1
      refine wt_T_if (fun h19 => ?_) (fun h19 => ?_)
      · skip
        have c20 := wt_ceq h19
        refine wt_T_bi (wq_ld_fillClause n hn t0 z5.1 r15.2) (fun r21 h22 => ?_)
        have f23 := h22
        have bb24 := wt_bd r21.1
        refine wt_T_if (fun h25 => ?_) (fun h25 => ?_)
        · skip
          have c26 := wt_ceq h25
          refine wt_T_some ?_
          exact (wt_fr.tr (wt_fr.tr (wt_fr.tr (wt_fr.tr wt_fr.rf f3 (fun i k h => by (try dsimp only at h); exact Or.inl (by first | exact h | omega)) (fun i h => by (try dsimp only at h); rcases h with h | h | h | h | h | h | h; exact Or.inl (by first | exact h | omega); exact Or.inr (Or.inl (by first | exact h | omega)); exact Or.inr (Or.inr (Or.inl (by first | exact h | omega))); exact Or.inr (Or.inr (Or.inr (Or.inl (by first | exact h | omega)))); exact Or.inr (Or.inr (Or.inr (Or.inr (Or.inl (by first | exact h | omega))))); exact Or.inr (Or.inr (Or.inr (Or.inr (Or.inr (Or.inl (by first | exact h | omega)))))); exact Or.inr (Or.inr (Or.inr (Or.inr (Or.inr (Or.inr (Or.inl (by first | exact h | omega))))))))) l7 (fun i k h => by (try dsimp only at h); rcases h with h | h | h | h | h; exact Or.inr (Or.inl (by first | exact h | omega)); exact Or.inr (Or.inr (Or.inl (by first | exact h | omega))); exact Or.inr (Or.inr (Or.inr (Or.inl (by first | exact h | omega)))); exact Or.inr (Or.inr (Or.inr (Or.inr (by first | exact h | omega)))); exact Or.inl (by first | exact h | omega)) (fun i h => by (try dsimp only at h); rcases h with h | h | h | h | h | h | h | h; exact Or.inr (Or.inr (Or.inr (Or.inr (Or.inr (Or.inr (Or.inr (by first | exact h | omega))))))); exact Or.inr (Or.inr (Or.inr (Or.inr (Or.inr (Or.inr (Or.inl (by first | exact h | omega))))))); exact Or.inr (Or.inr (Or.inr (Or.inr (Or.inr (Or.inl (by first | exact h | omega)))))); exact Or.inr (Or.inr (Or.inr (Or.inr (Or.inl (by first | exact h | omega))))); exact Or.inr (Or.inr (Or.inl (by first | exact h | omega))); exact Or.inr (Or.inr (Or.inr (Or.inl (by first | exact h | omega)))); exact Or.inl (by first | exact h | omega); exact Or.inr (Or.inl (by first | exact h | omega)))) f17 (fun i k h => by (try dsimp only at h); rcases h with h | h; exact Or.inr (Or.inl (by first | exact h | omega)); exact Or.inr (Or.inr (Or.inl (by first | exact h | omega)))) (fun i h => h.elim)) f23 (fun i k h => by (try dsimp only at h); rcases h with h | h | h | h | h; exact Or.inr (Or.inl (by first | exact h | omega)); exact Or.inr (Or.inr (Or.inl (by first | exact h | omega))); exact Or.inr (Or.inr (Or.inr (Or.inl (by first | exact h | omega)))); exact Or.inr (Or.inr (Or.inr (Or.inr (by first | exact h | omega)))); exact Or.inl (by first | exact h | omega)) (fun i h => by (try dsimp only at h); rcases h with h | h | h | h | h | h | h | h; exact Or.inr (Or.inr (Or.inr (Or.inr (Or.inr (Or.inr (Or.inr (by first | exact h | omega))))))); exact Or.inr (Or.inr (Or.inr (Or.inr (Or.inr (Or.inr (Or.inl (by first | exact h | omega))))))); exact Or.inr (Or.inr (Or.inr (Or.inr (Or.inr (Or.inl (by first | exact h | omega)))))); exact Or.inr (Or.inr (Or.inr (Or.inr (Or.inl (by first | exact h | omega))))); exact Or.inr (Or.inr (Or.inl (by first | exact h | omega))); exact Or.inr (Or.inr (Or.inr (Or.inl (by first | exact h | omega)))); exact Or.inl (by first | exact h | omega); exact Or.inr (Or.inl (by first | exact h | omega))))
        · skip
          have c27 := wt_nceq h25
          refine wt_T_bi (wq_tp_needSign n hn (59 : Int32) r21.2) (fun r28 h29 => ?_)
          have f30 := h29
          have bb31 := wt_bd r28.1
          refine wt_T_if (fun h32 => ?_) (fun h32 => ?_)
          · skip
            have c33 := wt_ceq h32
            refine wt_T_some ?_
            exact (wt_fr.tr (wt_fr.tr (wt_fr.tr (wt_fr.tr (wt_fr.tr wt_fr.rf f3 (fun i k h => by (try dsimp only at h); exact Or.inl (by first | exact h | omega)) (fun i h => by (try dsimp only at h); rcases h with h | h | h | h | h | h | h; exact Or.inl (by first | exact h | omega); exact Or.inr (Or.inl (by first | exact h | omega)); exact Or.inr (Or.inr (Or.inl (by first | exact h | omega))); exact Or.inr (Or.inr (Or.inr (Or.inl (by first | exact h | omega)))); exact Or.inr (Or.inr (Or.inr (Or.inr (Or.inl (by first | exact h | omega))))); exact Or.inr (Or.inr (Or.inr (Or.inr (Or.inr (Or.inl (by first | exact h | omega)))))); exact Or.inr (Or.inr (Or.inr (Or.inr (Or.inr (Or.inr (Or.inl (by first | exact h | omega))))))))) l7 (fun i k h => by (try dsimp only at h); rcases h with h | h | h | h | h; exact Or.inr (Or.inl (by first | exact h | omega)); exact Or.inr (Or.inr (Or.inl (by first | exact h | omega))); exact Or.inr (Or.inr (Or.inr (Or.inl (by first | exact h | omega)))); exact Or.inr (Or.inr (Or.inr (Or.inr (by first | exact h | omega)))); exact Or.inl (by first | exact h | omega)) (fun i h => by (try dsimp only at h); rcases h with h | h | h | h | h | h | h | h; exact Or.inr (Or.inr (Or.inr (Or.inr (Or.inr (Or.inr (Or.inr (by first | exact h | omega))))))); exact Or.inr (Or.inr (Or.inr (Or.inr (Or.inr (Or.inr (Or.inl (by first | exact h | omega))))))); exact Or.inr (Or.inr (Or.inr (Or.inr (Or.inr (Or.inl (by first | exact h | omega)))))); exact Or.inr (Or.inr (Or.inr (Or.inr (Or.inl (by first | exact h | omega))))); exact Or.inr (Or.inr (Or.inl (by first | exact h | omega))); exact Or.inr (Or.inr (Or.inr (Or.inl (by first | exact h | omega)))); exact Or.inl (by first | exact h | omega); exact Or.inr (Or.inl (by first | exact h | omega)))) f17 (fun i k h => by (try dsimp only at h); rcases h with h | h; exact Or.inr (Or.inl (by first | exact h | omega)); exact Or.inr (Or.inr (Or.inl (by first | exact h | omega)))) (fun i h => h.elim)) f23 (fun i k h => by (try dsimp only at h); rcases h with h | h | h | h | h; exact Or.inr (Or.inl (by first | exact h | omega)); exact Or.inr (Or.inr (Or.inl (by first | exact h | omega))); exact Or.inr (Or.inr (Or.inr (Or.inl (by first | exact h | omega)))); exact Or.inr (Or.inr (Or.inr (Or.inr (by first | exact h | omega)))); exact Or.inl (by first | exact h | omega)) (fun i h => by (try dsimp only at h); rcases h with h | h | h | h | h | h | h | h; exact Or.inr (Or.inr (Or.inr (Or.inr (Or.inr (Or.inr (Or.inr (by first | exact h | omega))))))); exact Or.inr (Or.inr (Or.inr (Or.inr (Or.inr (Or.inr (Or.inl (by first | exact h | omega))))))); exact Or.inr (Or.inr (Or.inr (Or.inr (Or.inr (Or.inl (by first | exact h | omega)))))); exact Or.inr (Or.inr (Or.inr (Or.inr (Or.inl (by first | exact h | omega))))); exact Or.inr (Or.inr (Or.inl (by first | exact h | omega))); exact Or.inr (Or.inr (Or.inr (Or.inl (by first | exact h | omega)))); exact Or.inl (by first | exact h | omega); exact Or.inr (Or.inl (by first | exact h | omega)))) f30 (fun i k h => by (try dsimp only at h); rcases h with h | h | h | h; exact Or.inr (Or.inl (by first | exact h | omega)); exact Or.inr (Or.inr (Or.inl (by first | exact h | omega))); exact Or.inr (Or.inr (Or.inr (Or.inl (by first | exact h | omega)))); exact Or.inr (Or.inr (Or.inr (Or.inr (by first | exact h | omega))))) (fun i h => h.elim))
          · skip
            have c34 := wt_nceq h32
            refine hKK4 _ ⟨(wt_fr.tr (wt_fr.tr (wt_fr.tr (wt_fr.tr wt_fr.rf l7 (fun i k h => by (try dsimp only at h); rcases h with h | h | h | h | h; exact Or.inl (by first | exact h | omega); exact Or.inr (Or.inl (by first | exact h | omega)); exact Or.inr (Or.inr (Or.inl (by first | exact h | omega))); exact Or.inr (Or.inr (Or.inr (Or.inl (by first | exact h | omega)))); exact Or.inr (Or.inr (Or.inr (Or.inr (by first | exact h | omega))))) (fun i h => by (try dsimp only at h); rcases h with h | h | h | h | h | h | h | h; exact Or.inl (by first | exact h | omega); exact Or.inr (Or.inl (by first | exact h | omega)); exact Or.inr (Or.inr (Or.inl (by first | exact h | omega))); exact Or.inr (Or.inr (Or.inr (Or.inl (by first | exact h | omega)))); exact Or.inr (Or.inr (Or.inr (Or.inr (Or.inl (by first | exact h | omega))))); exact Or.inr (Or.inr (Or.inr (Or.inr (Or.inr (Or.inl (by first | exact h | omega)))))); exact Or.inr (Or.inr (Or.inr (Or.inr (Or.inr (Or.inr (Or.inl (by first | exact h | omega))))))); exact Or.inr (Or.inr (Or.inr (Or.inr (Or.inr (Or.inr (Or.inr (by first | exact h | omega))))))))) f17 (fun i k h => by (try dsimp only at h); rcases h with h | h; exact Or.inl (by first | exact h | omega); exact Or.inr (Or.inl (by first | exact h | omega))) (fun i h => h.elim)) f23 (fun i k h => by (try dsimp only at h); rcases h with h | h | h | h | h; exact Or.inl (by first | exact h | omega); exact Or.inr (Or.inl (by first | exact h | omega)); exact Or.inr (Or.inr (Or.inl (by first | exact h | omega))); exact Or.inr (Or.inr (Or.inr (Or.inl (by first | exact h | omega)))); exact Or.inr (Or.inr (Or.inr (Or.inr (by first | exact h | omega))))) (fun i h => by (try dsimp only at h); rcases h with h | h | h | h | h | h | h | h; exact Or.inl (by first | exact h | omega); exact Or.inr (Or.inl (by first | exact h | omega)); exact Or.inr (Or.inr (Or.inl (by first | exact h | omega))); exact Or.inr (Or.inr (Or.inr (Or.inl (by first | exact h | omega)))); exact Or.inr (Or.inr (Or.inr (Or.inr (Or.inl (by first | exact h | omega))))); exact Or.inr (Or.inr (Or.inr (Or.inr (Or.inr (Or.inl (by first | exact h | omega)))))); exact Or.inr (Or.inr (Or.inr (Or.inr (Or.inr (Or.inr (Or.inl (by first | exact h | omega))))))); exact Or.inr (Or.inr (Or.inr (Or.inr (Or.inr (Or.inr (Or.inr (by first | exact h | omega))))))))) f30 (fun i k h => by (try dsimp only at h); rcases h with h | h | h | h; exact Or.inl (by first | exact h | omega); exact Or.inr (Or.inl (by first | exact h | omega)); exact Or.inr (Or.inr (Or.inl (by first | exact h | omega))); exact Or.inr (Or.inr (Or.inr (Or.inl (by first | exact h | omega))))) (fun i h => h.elim)), (wt_nn1 (B := (60 : Int32)) (by omega) (by omega) (by omega))⟩ ?_
            show ((60 : Int32).toInt - (z5.1 + (1 : Int32)).toInt + 1).toNat < ((60 : Int32).toInt - z5.1.toInt + 1).toNat
            exact wt_mu1 (by omega) (by omega) (by omega)
      · skip
        have c35 := wt_nceq h19
        refine wt_T_some ?_
        exact (wt_fr.tr (wt_fr.tr (wt_fr.tr wt_fr.rf f3 (fun i k h => by (try dsimp only at h); exact Or.inl (by first | exact h | omega)) (fun i h => by (try dsimp only at h); rcases h with h | h | h | h | h | h | h; exact Or.inl (by first | exact h | omega); exact Or.inr (Or.inl (by first | exact h | omega)); exact Or.inr (Or.inr (Or.inl (by first | exact h | omega))); exact Or.inr (Or.inr (Or.inr (Or.inl (by first | exact h | omega)))); exact Or.inr (Or.inr (Or.inr (Or.inr (Or.inl (by first | exact h | omega))))); exact Or.inr (Or.inr (Or.inr (Or.inr (Or.inr (Or.inl (by first | exact h | omega)))))); exact Or.inr (Or.inr (Or.inr (Or.inr (Or.inr (Or.inr (Or.inl (by first | exact h | omega))))))))) l7 (fun i k h => by (try dsimp only at h); rcases h with h | h | h | h | h; exact Or.inr (Or.inl (by first | exact h | omega)); exact Or.inr (Or.inr (Or.inl (by first | exact h | omega))); exact Or.inr (Or.inr (Or.inr (Or.inl (by first | exact h | omega)))); exact Or.inr (Or.inr (Or.inr (Or.inr (by first | exact h | omega)))); exact Or.inl (by first | exact h | omega)) (fun i h => by (try dsimp only at h); rcases h with h | h | h | h | h | h | h | h; exact Or.inr (Or.inr (Or.inr (Or.inr (Or.inr (Or.inr (Or.inr (by first | exact h | omega))))))); exact Or.inr (Or.inr (Or.inr (Or.inr (Or.inr (Or.inr (Or.inl (by first | exact h | omega))))))); exact Or.inr (Or.inr (Or.inr (Or.inr (Or.inr (Or.inl (by first | exact h | omega)))))); exact Or.inr (Or.inr (Or.inr (Or.inr (Or.inl (by first | exact h | omega))))); exact Or.inr (Or.inr (Or.inl (by first | exact h | omega))); exact Or.inr (Or.inr (Or.inr (Or.inl (by first | exact h | omega)))); exact Or.inl (by first | exact h | omega); exact Or.inr (Or.inl (by first | exact h | omega)))) f17 (fun i k h => by (try dsimp only at h); rcases h with h | h; exact Or.inr (Or.inl (by first | exact h | omega)); exact Or.inr (Or.inr (Or.inl (by first | exact h | omega)))) (fun i h => h.elim))
  · skip
    have k36 : (60 : Int32).toInt = 60 := by decide
    exact ⟨wt_fr.rf, (show 0 ≤ ((0 : Int32)).toInt by omega)⟩
  · skip
    have k37 : (60 : Int32).toInt = 60 := by decide
    show ((60 : Int32).toInt - (0 : Int32).toInt + 1).toNat < n
    omega
set_option maxRecDepth 100000 in
set_option maxHeartbeats 4000000 in
theorem wq_st_clearPages (n : Nat) (hn : 4294967297 < n) (t0 : Nat) (σ : wt_St) : wt_T (wp_st_clearPages n t0 σ) (fun q => wt_fr (fun i k => False) (fun i => i = t0 + 2 ∨ i = t0 + 4) σ q) := by
  unfold wp_st_clearPages
  refine wt_T_bi (wq_ap_fillRow n hn (t0 + 2) (-1 : Int32) σ) (fun r1 h2 => ?_)
  have f3 := h2
  refine wt_T_bi (wq_ap_fillRow n hn (t0 + 4) (-1 : Int32) r1) (fun r4 h5 => ?_)
  have f6 := h5
  refine wt_T_some ?_
  exact (wt_fr.tr (wt_fr.tr wt_fr.rf f3 (fun i k h => h.elim) (fun i h => by (try dsimp only at h); exact Or.inl (by first | exact h | omega))) f6 (fun i k h => h.elim) (fun i h => by (try dsimp only at h); exact Or.inr (by first | exact h | omega)))
set_option maxRecDepth 100000 in
set_option maxHeartbeats 4000000 in
theorem wq_st_lay (n : Nat) (hn : 4294967297 < n) (t0 : Nat) (t1 : Nat) (σ : wt_St) : wt_T (wp_st_lay n t0 t1 σ) (fun q => wt_fr (fun i k => False) (fun i => i = t0 + 1 ∨ i = t0 + 2 ∨ i = t0 + 4) σ q) := by
  unfold wp_st_lay
  refine wt_T_bi (wq_ap_copyRow n hn (t1 + 2) (t0 + 1) σ) (fun r1 h2 => ?_)
  have f3 := h2
  refine wt_T_bi (wq_st_clearPages n hn t0 r1) (fun r4 h5 => ?_)
  have f6 := h5
  refine wt_T_some ?_
  exact (wt_fr.tr (wt_fr.tr wt_fr.rf f3 (fun i k h => h.elim) (fun i h => by (try dsimp only at h); exact Or.inl (by first | exact h | omega))) f6 (fun i k h => h.elim) (fun i h => by (try dsimp only at h); rcases h with h | h; exact Or.inr (Or.inl (by first | exact h | omega)); exact Or.inr (Or.inr (by first | exact h | omega))))
set_option maxRecDepth 100000 in
set_option maxHeartbeats 4000000 in
theorem wq_sk_piecesOfAll (n : Nat) (hn : 4294967297 < n) (σ : wt_St) : wt_T (wp_sk_piecesOfAll n σ) (fun q => q.2 = σ) := by
  unfold wp_sk_piecesOfAll
  have k6 : (0 : Int32).toInt = 0 := by decide
  refine wt_T_it (fun s : Int32 × Int32 × wt_St => s.2.2 = σ ∧ 0 ≤ (s.2.1).toInt) (fun s : Int32 × Int32 × wt_St => ((26 : Int32).toInt - s.2.1.toInt + 0).toNat) (fun KK1 z2 I3 hKK1 => ?_) _ _ ?_ ?_
  · skip
    obtain ⟨l4, l5⟩ := I3
    unfold wp_sk_piecesOfAll_B4
    rw [l4]
    have k7 : (26 : Int32).toInt = 26 := by decide
    have bb8 := wt_bd z2.2.1
    refine wt_T_if (fun h9 => ?_) (fun h9 => ?_)
    · skip
      have c10 := wt_cle h9
      refine wt_T_some ?_
      exact rfl
    · skip
      have c11 := wt_ncle h9
      refine wt_T_bi (wq_sk_pieces n hn z2.2.1 σ) (fun r12 h13 => ?_)
      obtain ⟨e14, e14v⟩ := h13
      have e15 := wt_ceq e14v
      have bb16 := wt_bd (wt_lk 5 z2.2.1 σ)
      have bb17 := wt_bd r12.1
      rw [e14]
      refine hKK1 _ ⟨rfl, (wt_nn (B := (26 : Int32)) (by omega) (by first | (rw [l4]; omega) | (rw [l4]; done) | omega))⟩ ?_
      show ((26 : Int32).toInt - (z2.2.1 + (1 : Int32)).toInt + 0).toNat < ((26 : Int32).toInt - z2.2.1.toInt + 0).toNat
      exact wt_mu (by first | (rw [l4]; omega) | (rw [l4]; done) | omega) (by first | (rw [l4]; omega) | (rw [l4]; done) | omega)
  · skip
    have k18 : (26 : Int32).toInt = 26 := by decide
    exact ⟨rfl, (show 0 ≤ ((0 : Int32)).toInt by omega)⟩
  · skip
    have k19 : (26 : Int32).toInt = 26 := by decide
    show ((26 : Int32).toInt - (0 : Int32).toInt + 0).toNat < n
    omega
set_option maxRecDepth 100000 in
set_option maxHeartbeats 4000000 in
theorem wq_tp_begin (n : Nat) (hn : 4294967297 < n) (x1 : Int32) (σ : wt_St) : wt_T (wp_tp_begin n x1 σ) (fun q => wt_fr (fun i k => (i = 1 ∧ k = 2) ∨ (i = 1 ∧ k = 3) ∨ (i = 1 ∧ k = 4) ∨ (i = 1 ∧ k = 5) ∨ (i = 1 ∧ k = 6) ∨ (i = 1 ∧ k = 7)) (fun i => False) σ q ∧ (wt_gf q 1 2).toInt = 0) := by
  unfold wp_tp_begin
  obtain ⟨σ1, eσ1⟩ : ∃ z : wt_St, z = wt_sf σ 1 2 (0 : Int32) := ⟨_, rfl⟩
  rw [← eσ1]
  have fσ1 := wt_fr_sf eσ1
  have vσ1 := wt_ceq (wt_v_sf eσ1)
  have k2 : (0 : Int32).toInt = 0 := by decide
  obtain ⟨σ3, eσ3⟩ : ∃ z : wt_St, z = wt_sf σ1 1 3 x1 := ⟨_, rfl⟩
  rw [← eσ3]
  have fσ3 := wt_fr_sf eσ3
  have vσ3 := wt_ceq (wt_v_sf eσ3)
  have bb4 := wt_bd x1
  obtain ⟨σ5, eσ5⟩ : ∃ z : wt_St, z = wt_sf σ3 1 4 (0 : Int32) := ⟨_, rfl⟩
  rw [← eσ5]
  have fσ5 := wt_fr_sf eσ5
  have vσ5 := wt_ceq (wt_v_sf eσ5)
  obtain ⟨σ6, eσ6⟩ : ∃ z : wt_St, z = wt_sf σ5 1 5 (0 : Int32) := ⟨_, rfl⟩
  rw [← eσ6]
  have fσ6 := wt_fr_sf eσ6
  have vσ6 := wt_ceq (wt_v_sf eσ6)
  obtain ⟨σ7, eσ7⟩ : ∃ z : wt_St, z = wt_sf σ6 1 6 (0 : Int32) := ⟨_, rfl⟩
  rw [← eσ7]
  have fσ7 := wt_fr_sf eσ7
  have vσ7 := wt_ceq (wt_v_sf eσ7)
  obtain ⟨σ8, eσ8⟩ : ∃ z : wt_St, z = wt_sf σ7 1 7 (-1 : Int32) := ⟨_, rfl⟩
  rw [← eσ8]
  have fσ8 := wt_fr_sf eσ8
  have vσ8 := wt_ceq (wt_v_sf eσ8)
  refine wt_T_some ?_
  have bb9 := wt_bd (wt_gf σ8 1 2)
  have tt10 : (wt_gf σ8 1 2).toInt = (wt_gf σ7 1 2).toInt := congrArg Int32.toInt (fσ8.1 1 2 (by (try dsimp only); omega))
  have bb11 := wt_bd (wt_gf σ7 1 2)
  have tt12 : (wt_gf σ7 1 2).toInt = (wt_gf σ6 1 2).toInt := congrArg Int32.toInt (fσ7.1 1 2 (by (try dsimp only); omega))
  have bb13 := wt_bd (wt_gf σ6 1 2)
  have tt14 : (wt_gf σ6 1 2).toInt = (wt_gf σ5 1 2).toInt := congrArg Int32.toInt (fσ6.1 1 2 (by (try dsimp only); omega))
  have bb15 := wt_bd (wt_gf σ5 1 2)
  have tt16 : (wt_gf σ5 1 2).toInt = (wt_gf σ3 1 2).toInt := congrArg Int32.toInt (fσ5.1 1 2 (by (try dsimp only); omega))
  have bb17 := wt_bd (wt_gf σ3 1 2)
  have tt18 : (wt_gf σ3 1 2).toInt = (wt_gf σ1 1 2).toInt := congrArg Int32.toInt (fσ3.1 1 2 (by (try dsimp only); omega))
  have bb19 := wt_bd (wt_gf σ1 1 2)
  have bb20 := wt_bd (wt_gf σ 1 2)
  exact ⟨(wt_fr.tr (wt_fr.tr (wt_fr.tr (wt_fr.tr (wt_fr.tr (wt_fr.tr wt_fr.rf fσ1 (fun i k h => by (try dsimp only at h); exact Or.inl (by first | exact h | omega)) (fun i h => h.elim)) fσ3 (fun i k h => by (try dsimp only at h); exact Or.inr (Or.inl (by first | exact h | omega))) (fun i h => h.elim)) fσ5 (fun i k h => by (try dsimp only at h); exact Or.inr (Or.inr (Or.inl (by first | exact h | omega)))) (fun i h => h.elim)) fσ6 (fun i k h => by (try dsimp only at h); exact Or.inr (Or.inr (Or.inr (Or.inl (by first | exact h | omega))))) (fun i h => h.elim)) fσ7 (fun i k h => by (try dsimp only at h); exact Or.inr (Or.inr (Or.inr (Or.inr (Or.inl (by first | exact h | omega)))))) (fun i h => h.elim)) fσ8 (fun i k h => by (try dsimp only at h); exact Or.inr (Or.inr (Or.inr (Or.inr (Or.inr (by first | exact h | omega)))))) (fun i h => h.elim)), (show (wt_gf σ8 1 2).toInt = 0 by omega)⟩
set_option maxRecDepth 100000 in
set_option maxHeartbeats 4000000 in
theorem wq_rw_sumAt (n : Nat) (hn : 4294967297 < n) (x1 : Int32) (x2 : Int32) (x3 : Int32) (σ : wt_St) : wt_T (wp_rw_sumAt n x1 x2 x3 σ) (fun q => q.2 = σ) := by
  unfold wp_rw_sumAt
  refine wt_T_bi (wq_tx_wordAt n hn x1 x2 σ) (fun r1 h2 => ?_)
  have e3 := h2
  rw [e3]
  refine wt_T_bi (wq_tg_firstLike n hn 20 r1.1 σ) (fun r4 h5 => ?_)
  have e6 := h5
  rw [e6]
  refine wt_T_bi (wq_ap_look n hn 82 (((x2 * (5 : Int32)) + x3) - r4.1) σ) (fun r7 h8 => ?_)
  obtain ⟨e9, e9v⟩ := h8
  have e10 := wt_ceq e9v
  have bb11 := wt_bd (wt_lk 82 (((x2 * (5 : Int32)) + x3) - r4.1) σ)
  have bb12 := wt_bd r7.1
  rw [e9]
  refine wt_T_some ?_
  exact rfl
set_option maxRecDepth 100000 in
set_option maxHeartbeats 4000000 in
theorem wq_rw_cheapestBehind (n : Nat) (hn : 4294967297 < n) (x1 : Int32) (x2 : Int32) (x3 : Int32) (σ : wt_St) : wt_T (wp_rw_cheapestBehind n x1 x2 x3 σ) (fun q => q.2 = σ) := by
  unfold wp_rw_cheapestBehind
  refine wt_T_bi (wq_tx_wordAt n hn x1 (x2 + (1 : Int32)) σ) (fun r1 h2 => ?_)
  have e3 := h2
  rw [e3]
  have k9 : (0 : Int32).toInt = 0 := by decide
  refine wt_T_it (fun s : Int32 × Int32 × Int32 × wt_St => s.2.2.2 = σ ∧ 0 ≤ (s.2.2.1).toInt) (fun s : Int32 × Int32 × Int32 × wt_St => ((wt_lk2 (20 + 6) (20 + 4) r1.1 s.2.2.2).toInt - s.2.2.1.toInt + 0).toNat) (fun KK4 z5 I6 hKK4 => ?_) _ _ ?_ ?_
  · skip
    obtain ⟨l7, l8⟩ := I6
    unfold wp_rw_cheapestBehind_B23
    rw [l7]
    have bb10 := wt_bd (wt_lk2 (20 + 6) (20 + 4) r1.1 σ)
    have bb11 := wt_bd z5.2.2.1
    refine wt_T_bi (wq_tg_membersLike n hn 20 r1.1 σ) (fun r12 h13 => ?_)
    obtain ⟨e14, e14v⟩ := h13
    have e15 := wt_ceq e14v
    have bb16 := wt_bd r12.1
    rw [e14]
    refine wt_T_if (fun h17 => ?_) (fun h17 => ?_)
    · skip
      have c18 := wt_cle h17
      refine wt_T_some ?_
      exact rfl
    · skip
      have c19 := wt_ncle h17
      refine wt_T_bi (wq_tg_firstLike n hn 20 r1.1 σ) (fun r20 h21 => ?_)
      have e22 := h21
      rw [e22]
      refine wt_T_bi (wq_rw_sumAt n hn x1 (x2 + (1 : Int32)) (r20.1 + z5.2.2.1) σ) (fun r23 h24 => ?_)
      have e25 := h24
      rw [e25]
      have bb26 := wt_bd r23.1
      refine wt_T_if (fun h27 => ?_) (fun h27 => ?_)
      · skip
        have c28 := wt_ceq h27
        rw [wt_lm1] at c28
        unfold wp_rw_cheapestBehind_B94
        refine hKK4 _ ⟨rfl, (wt_nn (B := wt_lk2 (20 + 6) (20 + 4) r1.1 z5.2.2.2) (by omega) (by first | (rw [l7]; omega) | (rw [l7]; done) | omega))⟩ ?_
        show ((wt_lk2 (20 + 6) (20 + 4) r1.1 σ).toInt - (z5.2.2.1 + (1 : Int32)).toInt + 0).toNat < ((wt_lk2 (20 + 6) (20 + 4) r1.1 z5.2.2.2).toInt - z5.2.2.1.toInt + 0).toNat
        exact wt_mu (by first | (rw [l7]; omega) | (rw [l7]; done) | omega) (by first | (rw [l7]; omega) | (rw [l7]; done) | omega)
      · skip
        have c29 := wt_nceq h27
        rw [wt_lm1] at c29
        have bb30 := wt_bd z5.2.1
        refine wt_T_if (fun h31 => ?_) (fun h31 => ?_)
        · skip
          have c32 := wt_cle h31
          unfold wp_rw_cheapestBehind_B94
          refine hKK4 _ ⟨rfl, (wt_nn (B := wt_lk2 (20 + 6) (20 + 4) r1.1 z5.2.2.2) (by omega) (by first | (rw [l7]; omega) | (rw [l7]; done) | omega))⟩ ?_
          show ((wt_lk2 (20 + 6) (20 + 4) r1.1 σ).toInt - (z5.2.2.1 + (1 : Int32)).toInt + 0).toNat < ((wt_lk2 (20 + 6) (20 + 4) r1.1 z5.2.2.2).toInt - z5.2.2.1.toInt + 0).toNat
          exact wt_mu (by first | (rw [l7]; omega) | (rw [l7]; done) | omega) (by first | (rw [l7]; omega) | (rw [l7]; done) | omega)
        · skip
          have c33 := wt_ncle h31
          refine wt_T_bi (wq_rw_mayFollow n hn x3 (r20.1 + z5.2.2.1) σ) (fun r34 h35 => ?_)
          have e36 := h35
          rw [e36]
          have bb37 := wt_bd r34.1
          refine wt_T_if (fun h38 => ?_) (fun h38 => ?_)
          · skip
            have c39 := wt_ceq h38
            unfold wp_rw_cheapestBehind_B94
            refine hKK4 _ ⟨rfl, (wt_nn (B := wt_lk2 (20 + 6) (20 + 4) r1.1 z5.2.2.2) (by omega) (by first | (rw [l7]; omega) | (rw [l7]; done) | omega))⟩ ?_
            show ((wt_lk2 (20 + 6) (20 + 4) r1.1 σ).toInt - (z5.2.2.1 + (1 : Int32)).toInt + 0).toNat < ((wt_lk2 (20 + 6) (20 + 4) r1.1 z5.2.2.2).toInt - z5.2.2.1.toInt + 0).toNat
            exact wt_mu (by first | (rw [l7]; omega) | (rw [l7]; done) | omega) (by first | (rw [l7]; omega) | (rw [l7]; done) | omega)
          · skip
            have c40 := wt_nceq h38
            unfold wp_rw_cheapestBehind_B94
            refine hKK4 _ ⟨rfl, (wt_nn (B := wt_lk2 (20 + 6) (20 + 4) r1.1 z5.2.2.2) (by omega) (by first | (rw [l7]; omega) | (rw [l7]; done) | omega))⟩ ?_
            show ((wt_lk2 (20 + 6) (20 + 4) r1.1 σ).toInt - (z5.2.2.1 + (1 : Int32)).toInt + 0).toNat < ((wt_lk2 (20 + 6) (20 + 4) r1.1 z5.2.2.2).toInt - z5.2.2.1.toInt + 0).toNat
            exact wt_mu (by first | (rw [l7]; omega) | (rw [l7]; done) | omega) (by first | (rw [l7]; omega) | (rw [l7]; done) | omega)
  · skip
    have bb41 := wt_bd (wt_lk2 (20 + 6) (20 + 4) r1.1 σ)
    exact ⟨rfl, (show 0 ≤ ((0 : Int32)).toInt by omega)⟩
  · skip
    have bb42 := wt_bd (wt_lk2 (20 + 6) (20 + 4) r1.1 σ)
    show ((wt_lk2 (20 + 6) (20 + 4) r1.1 σ).toInt - (0 : Int32).toInt + 0).toNat < n
    omega
set_option maxRecDepth 100000 in
set_option maxHeartbeats 4000000 in
theorem wq_rw_leastFrom (n : Nat) (hn : 4294967297 < n) (x1 : Int32) (x2 : Int32) (x3 : Int32) (σ : wt_St) : wt_T (wp_rw_leastFrom n x1 x2 x3 σ) (fun q => q.2 = σ) := by
  unfold wp_rw_leastFrom
  refine wt_T_bi (wq_tx_lengthOf n hn x1 σ) (fun r1 h2 => ?_)
  obtain ⟨e3, e3v⟩ := h2
  have e4 := wt_ceq e3v
  have bb5 := wt_bd (wt_lk 36 x1 σ)
  have bb6 := wt_bd r1.1
  rw [e3]
  have bb7 := wt_bd x2
  have k8 : (1 : Int32).toInt = 1 := by decide
  obtain ⟨j9, j9a, j9b⟩ := wt_addI x2 (1 : Int32)
  refine wt_T_if (fun h10 => ?_) (fun h10 => ?_)
  · skip
    have c11 := wt_clt h10
    refine wt_T_bi (wq_rw_cheapestBehind n hn x1 x2 x3 σ) (fun r12 h13 => ?_)
    have e14 := h13
    rw [e14]
    have bb15 := wt_bd r12.1
    refine wt_T_if (fun h16 => ?_) (fun h16 => ?_)
    · skip
      have c17 := wt_ceq h16
      rw [wt_lm1] at c17
      refine wt_T_some ?_
      exact rfl
    · skip
      have c18 := wt_nceq h16
      rw [wt_lm1] at c18
      refine wt_T_bi (wq_rw_priceOf n hn x3 σ) (fun r19 h20 => ?_)
      have e21 := h20
      rw [e21]
      refine wt_T_bi (wq_rw_sumAt n hn x1 (x2 + (1 : Int32)) r12.1 σ) (fun r22 h23 => ?_)
      have e24 := h23
      rw [e24]
      refine wt_T_some ?_
      exact rfl
  · skip
    have c25 := wt_ncl h10
    refine wt_T_bi (wq_rw_priceOf n hn x3 σ) (fun r26 h27 => ?_)
    have e28 := h27
    rw [e28]
    refine wt_T_some ?_
    exact rfl
set_option maxRecDepth 100000 in
set_option maxHeartbeats 4000000 in
theorem wq_rw_findLeast (n : Nat) (hn : 4294967297 < n) (x1 : Int32) (σ : wt_St) : wt_T (wp_rw_findLeast n x1 σ) (fun q => wt_fr (fun i k => (i = 81 ∧ k = 9)) (fun i => i = 85 ∨ i = 82) σ q) := by
  unfold wp_rw_findLeast
  refine wt_T_bi (wq_tx_lengthOf n hn x1 σ) (fun r1 h2 => ?_)
  obtain ⟨e3, e3v⟩ := h2
  have e4 := wt_ceq e3v
  have bb5 := wt_bd (wt_lk 36 x1 σ)
  have bb6 := wt_bd r1.1
  rw [e3]
  refine wt_T_it (fun s : Int32 × wt_St => wt_fr (fun i k => False) (fun i => i = 82) σ s.2) (fun s : Int32 × wt_St => (s.1.toInt + 1).toNat) (fun KK7 z8 I9 hKK7 => ?_) _ _ ?_ ?_
  · skip
    have l10 := I9
    unfold wp_rw_findLeast_B13
    have bb11 := wt_bd z8.1
    have k12 : (0 : Int32).toInt = 0 := by decide
    refine wt_T_if (fun h13 => ?_) (fun h13 => ?_)
    · skip
      have c14 := wt_clt h13
      obtain ⟨σ15, eσ15⟩ : ∃ z : wt_St, z = wt_sf z8.2 81 9 (-1 : Int32) := ⟨_, rfl⟩
      rw [← eσ15]
      have fσ15 := wt_fr_sf eσ15
      have vσ15 := wt_ceq (wt_v_sf eσ15)
      refine wt_T_it (fun s : Int32 × Int32 × wt_St => wt_fr (fun i k => (i = 81 ∧ k = 9)) (fun i => i = 85) σ15 s.2.2 ∧ 0 ≤ (s.2.1).toInt) (fun s : Int32 × Int32 × wt_St => (r1.1.toInt - s.2.1.toInt + 0).toNat) (fun KK16 z17 I18 hKK16 => ?_) _ _ ?_ ?_
      · skip
        obtain ⟨l19, l20⟩ := I18
        unfold wp_rw_findLeast_B98
        have bb21 := wt_bd z17.2.1
        refine wt_T_if (fun h22 => ?_) (fun h22 => ?_)
        · skip
          have c23 := wt_cle h22
          refine wt_T_some ?_
          exact (wt_fr.tr (wt_fr.tr (wt_fr.tr wt_fr.rf l10 (fun i k h => h.elim) (fun i h => by (try dsimp only at h); exact Or.inr (by first | exact h | omega))) fσ15 (fun i k h => by (try dsimp only at h); exact (by first | exact h | omega)) (fun i h => h.elim)) l19 (fun i k h => by (try dsimp only at h); exact (by first | exact h | omega)) (fun i h => by (try dsimp only at h); exact Or.inl (by first | exact h | omega)))
        · skip
          have c24 := wt_ncle h22
          refine wt_T_bi (wq_rw_cheapestBehind n hn x1 (z17.2.1 - (1 : Int32)) z17.1 z17.2.2) (fun r25 h26 => ?_)
          have e27 := h26
          rw [e27]
          have bb28 := wt_bd r25.1
          refine wt_T_if (fun h29 => ?_) (fun h29 => ?_)
          · skip
            have c30 := wt_ceq h29
            rw [wt_lm1] at c30
            refine wt_T_some ?_
            exact (wt_fr.tr (wt_fr.tr (wt_fr.tr wt_fr.rf l10 (fun i k h => h.elim) (fun i h => by (try dsimp only at h); exact Or.inr (by first | exact h | omega))) fσ15 (fun i k h => by (try dsimp only at h); exact (by first | exact h | omega)) (fun i h => h.elim)) l19 (fun i k h => by (try dsimp only at h); exact (by first | exact h | omega)) (fun i h => by (try dsimp only at h); exact Or.inl (by first | exact h | omega)))
          · skip
            have c31 := wt_nceq h29
            rw [wt_lm1] at c31
            refine wt_T_bi (wq_ap_put n hn 85 z17.2.1 r25.1 z17.2.2) (fun r32 h33 => ?_)
            have f34 := h33
            refine wt_T_if (fun h35 => ?_) (fun h35 => ?_)
            · skip
              have c36 := wt_ceq h35
              refine wt_T_bi (wq_rw_sumAt n hn x1 (0 : Int32) r25.1 r32) (fun r37 h38 => ?_)
              have e39 := h38
              rw [e39]
              unfold wp_rw_findLeast_B151
              obtain ⟨σ40, eσ40⟩ : ∃ z : wt_St, z = wt_sf r32 81 9 r37.1 := ⟨_, rfl⟩
              rw [← eσ40]
              have fσ40 := wt_fr_sf eσ40
              have vσ40 := wt_ceq (wt_v_sf eσ40)
              refine hKK16 _ ⟨(wt_fr.tr (wt_fr.tr (wt_fr.tr wt_fr.rf l19 (fun i k h => by (try dsimp only at h); exact (by first | exact h | omega)) (fun i h => by (try dsimp only at h); exact (by first | exact h | omega))) f34 (fun i k h => h.elim) (fun i h => by (try dsimp only at h); exact (by first | exact h | omega))) fσ40 (fun i k h => by (try dsimp only at h); exact (by first | exact h | omega)) (fun i h => h.elim)), (wt_nn (B := r1.1) (by omega) (by omega))⟩ ?_
              show (r1.1.toInt - (z17.2.1 + (1 : Int32)).toInt + 0).toNat < (r1.1.toInt - z17.2.1.toInt + 0).toNat
              exact wt_mu (by omega) (by omega)
            · skip
              have c41 := wt_nceq h35
              unfold wp_rw_findLeast_B151
              obtain ⟨σ42, eσ42⟩ : ∃ z : wt_St, z = wt_sf r32 81 9 (wt_gf r32 81 9) := ⟨_, rfl⟩
              rw [← eσ42]
              have fσ42 := wt_fr_sf eσ42
              have vσ42 := wt_ceq (wt_v_sf eσ42)
              refine hKK16 _ ⟨(wt_fr.tr (wt_fr.tr (wt_fr.tr wt_fr.rf l19 (fun i k h => by (try dsimp only at h); exact (by first | exact h | omega)) (fun i h => by (try dsimp only at h); exact (by first | exact h | omega))) f34 (fun i k h => h.elim) (fun i h => by (try dsimp only at h); exact (by first | exact h | omega))) fσ42 (fun i k h => by (try dsimp only at h); exact (by first | exact h | omega)) (fun i h => h.elim)), (wt_nn (B := r1.1) (by omega) (by omega))⟩ ?_
              show (r1.1.toInt - (z17.2.1 + (1 : Int32)).toInt + 0).toNat < (r1.1.toInt - z17.2.1.toInt + 0).toNat
              exact wt_mu (by omega) (by omega)
      · skip
        exact ⟨wt_fr.rf, (show 0 ≤ ((0 : Int32)).toInt by omega)⟩
      · skip
        show (r1.1.toInt - (0 : Int32).toInt + 0).toNat < n
        omega
    · skip
      have c43 := wt_ncl h13
      refine wt_T_bi (wq_tx_wordAt n hn x1 z8.1 z8.2) (fun r44 h45 => ?_)
      have e46 := h45
      rw [e46]
      refine wt_T_it (fun s : Int32 × wt_St => wt_fr (fun i k => False) (fun i => i = 82) z8.2 s.2 ∧ 0 ≤ (s.1).toInt) (fun s : Int32 × wt_St => ((wt_lk2 (20 + 6) (20 + 4) r44.1 s.2).toInt - s.1.toInt + 0).toNat) (fun KK47 z48 I49 hKK47 => ?_) _ _ ?_ ?_
      · skip
        obtain ⟨l50, l51⟩ := I49
        unfold wp_rw_findLeast_B31
        have bb52 := wt_bd (wt_lk2 (20 + 6) (20 + 4) r44.1 z48.2)
        have tt53 : (wt_lk2 (20 + 6) (20 + 4) r44.1 z48.2).toInt = (wt_lk2 (20 + 6) (20 + 4) r44.1 z8.2).toInt := congrArg Int32.toInt (wt_lk2_fr (l50.2 (20 + 6) (by (try dsimp only); omega)) (l50.2 (20 + 4) (by (try dsimp only); omega)))
        have bb54 := wt_bd (wt_lk2 (20 + 6) (20 + 4) r44.1 z8.2)
        have tt55 : (wt_lk2 (20 + 6) (20 + 4) r44.1 z8.2).toInt = (wt_lk2 (20 + 6) (20 + 4) r44.1 σ).toInt := congrArg Int32.toInt (wt_lk2_fr (l10.2 (20 + 6) (by (try dsimp only); omega)) (l10.2 (20 + 4) (by (try dsimp only); omega)))
        have bb56 := wt_bd (wt_lk2 (20 + 6) (20 + 4) r44.1 σ)
        have bb57 := wt_bd z48.1
        refine wt_T_bi (wq_tg_membersLike n hn 20 r44.1 z48.2) (fun r58 h59 => ?_)
        obtain ⟨e60, e60v⟩ := h59
        have e61 := wt_ceq e60v
        have bb62 := wt_bd r58.1
        rw [e60]
        refine wt_T_if (fun h63 => ?_) (fun h63 => ?_)
        · skip
          have c64 := wt_cle h63
          refine hKK7 _ (wt_fr.tr (wt_fr.tr wt_fr.rf l10 (fun i k h => h.elim) (fun i h => by (try dsimp only at h); exact (by first | exact h | omega))) l50 (fun i k h => h.elim) (fun i h => by (try dsimp only at h); exact (by first | exact h | omega))) ?_
          show ((z8.1 + (-1 : Int32)).toInt + 1).toNat < (z8.1.toInt + 1).toNat
          exact wt_md1 (by omega)
        · skip
          have c65 := wt_ncle h63
          refine wt_T_bi (wq_tg_firstLike n hn 20 r44.1 z48.2) (fun r66 h67 => ?_)
          have e68 := h67
          rw [e68]
          refine wt_T_bi (wq_rw_leastFrom n hn x1 z8.1 (r66.1 + z48.1) z48.2) (fun r69 h70 => ?_)
          have e71 := h70
          rw [e71]
          refine wt_T_bi (wq_ap_put n hn 82 ((z8.1 * (5 : Int32)) + z48.1) r69.1 z48.2) (fun r72 h73 => ?_)
          have f74 := h73
          have bb75 := wt_bd (wt_lk2 (20 + 6) (20 + 4) r44.1 r72)
          have tt76 : (wt_lk2 (20 + 6) (20 + 4) r44.1 r72).toInt = (wt_lk2 (20 + 6) (20 + 4) r44.1 z48.2).toInt := congrArg Int32.toInt (wt_lk2_fr (f74.2 (20 + 6) (by (try dsimp only); omega)) (f74.2 (20 + 4) (by (try dsimp only); omega)))
          refine hKK47 _ ⟨(wt_fr.tr (wt_fr.tr wt_fr.rf l50 (fun i k h => h.elim) (fun i h => by (try dsimp only at h); exact (by first | exact h | omega))) f74 (fun i k h => h.elim) (fun i h => by (try dsimp only at h); exact (by first | exact h | omega))), (wt_nn (B := wt_lk2 (20 + 6) (20 + 4) r44.1 z48.2) (by omega) (by omega))⟩ ?_
          show ((wt_lk2 (20 + 6) (20 + 4) r44.1 r72).toInt - (z48.1 + (1 : Int32)).toInt + 0).toNat < ((wt_lk2 (20 + 6) (20 + 4) r44.1 z48.2).toInt - z48.1.toInt + 0).toNat
          exact wt_mu (by omega) (by omega)
      · skip
        have bb77 := wt_bd (wt_lk2 (20 + 6) (20 + 4) r44.1 z8.2)
        have tt78 : (wt_lk2 (20 + 6) (20 + 4) r44.1 z8.2).toInt = (wt_lk2 (20 + 6) (20 + 4) r44.1 σ).toInt := congrArg Int32.toInt (wt_lk2_fr (l10.2 (20 + 6) (by (try dsimp only); omega)) (l10.2 (20 + 4) (by (try dsimp only); omega)))
        have bb79 := wt_bd (wt_lk2 (20 + 6) (20 + 4) r44.1 σ)
        exact ⟨wt_fr.rf, (show 0 ≤ ((0 : Int32)).toInt by omega)⟩
      · skip
        have bb80 := wt_bd (wt_lk2 (20 + 6) (20 + 4) r44.1 z8.2)
        have tt81 : (wt_lk2 (20 + 6) (20 + 4) r44.1 z8.2).toInt = (wt_lk2 (20 + 6) (20 + 4) r44.1 σ).toInt := congrArg Int32.toInt (wt_lk2_fr (l10.2 (20 + 6) (by (try dsimp only); omega)) (l10.2 (20 + 4) (by (try dsimp only); omega)))
        have bb82 := wt_bd (wt_lk2 (20 + 6) (20 + 4) r44.1 σ)
        show ((wt_lk2 (20 + 6) (20 + 4) r44.1 z8.2).toInt - (0 : Int32).toInt + 0).toNat < n
        omega
  · skip
    have k83 : (1 : Int32).toInt = 1 := by decide
    obtain ⟨j84, j84a, j84b⟩ := wt_subI r1.1 (1 : Int32)
    exact wt_fr.rf
  · skip
    have k85 : (1 : Int32).toInt = 1 := by decide
    obtain ⟨j86, j86a, j86b⟩ := wt_subI r1.1 (1 : Int32)
    show ((r1.1 - (1 : Int32)).toInt + 1).toNat < n
    omega
set_option maxRecDepth 100000 in
set_option maxHeartbeats 4000000 in
theorem wq_sk_leftOfAll (n : Nat) (hn : 4294967297 < n) (x1 : Int32) (σ : wt_St) : wt_T (wp_sk_leftOfAll n x1 σ) (fun q => q.2 = σ) := by
  unfold wp_sk_leftOfAll
  have k6 : (0 : Int32).toInt = 0 := by decide
  refine wt_T_it (fun s : Int32 × Int32 × wt_St => s.2.2 = σ ∧ 0 ≤ (s.2.1).toInt) (fun s : Int32 × Int32 × wt_St => ((wt_lk 5 x1 s.2.2).toInt - s.2.1.toInt + 0).toNat) (fun KK1 z2 I3 hKK1 => ?_) _ _ ?_ ?_
  · skip
    obtain ⟨l4, l5⟩ := I3
    unfold wp_sk_leftOfAll_B4
    rw [l4]
    have bb7 := wt_bd (wt_lk 5 x1 σ)
    have bb8 := wt_bd z2.2.1
    refine wt_T_bi (wq_sk_pieces n hn x1 σ) (fun r9 h10 => ?_)
    obtain ⟨e11, e11v⟩ := h10
    have e12 := wt_ceq e11v
    have bb13 := wt_bd r9.1
    rw [e11]
    refine wt_T_if (fun h14 => ?_) (fun h14 => ?_)
    · skip
      have c15 := wt_cle h14
      refine wt_T_some ?_
      exact rfl
    · skip
      have c16 := wt_ncle h14
      refine wt_T_bi (wq_ap_look n hn 40 ((x1 * (12 : Int32)) + z2.2.1) σ) (fun r17 h18 => ?_)
      obtain ⟨e19, e19v⟩ := h18
      have e20 := wt_ceq e19v
      have bb21 := wt_bd (wt_lk 40 ((x1 * (12 : Int32)) + z2.2.1) σ)
      have bb22 := wt_bd r17.1
      rw [e19]
      refine hKK1 _ ⟨rfl, (wt_nn (B := wt_lk 5 x1 z2.2.2) (by omega) (by first | (rw [l4]; omega) | (rw [l4]; done) | omega))⟩ ?_
      show ((wt_lk 5 x1 σ).toInt - (z2.2.1 + (1 : Int32)).toInt + 0).toNat < ((wt_lk 5 x1 z2.2.2).toInt - z2.2.1.toInt + 0).toNat
      exact wt_mu (by first | (rw [l4]; omega) | (rw [l4]; done) | omega) (by first | (rw [l4]; omega) | (rw [l4]; done) | omega)
  · skip
    have bb23 := wt_bd (wt_lk 5 x1 σ)
    exact ⟨rfl, (show 0 ≤ ((0 : Int32)).toInt by omega)⟩
  · skip
    have bb24 := wt_bd (wt_lk 5 x1 σ)
    show ((wt_lk 5 x1 σ).toInt - (0 : Int32).toInt + 0).toNat < n
    omega
set_option maxRecDepth 100000 in
set_option maxHeartbeats 4000000 in
theorem wq_sk_mostLeft (n : Nat) (hn : 4294967297 < n) (x1 : Int32) (σ : wt_St) : wt_T (wp_sk_mostLeft n x1 σ) (fun q => q.2 = σ) := by
  unfold wp_sk_mostLeft
  have k6 : (0 : Int32).toInt = 0 := by decide
  refine wt_T_it (fun s : Int32 × Int32 × wt_St => s.2.2 = σ ∧ 0 ≤ (s.2.1).toInt) (fun s : Int32 × Int32 × wt_St => ((wt_lk 5 x1 s.2.2).toInt - s.2.1.toInt + 0).toNat) (fun KK1 z2 I3 hKK1 => ?_) _ _ ?_ ?_
  · skip
    obtain ⟨l4, l5⟩ := I3
    unfold wp_sk_mostLeft_B4
    rw [l4]
    have bb7 := wt_bd (wt_lk 5 x1 σ)
    have bb8 := wt_bd z2.2.1
    refine wt_T_bi (wq_sk_pieces n hn x1 σ) (fun r9 h10 => ?_)
    obtain ⟨e11, e11v⟩ := h10
    have e12 := wt_ceq e11v
    have bb13 := wt_bd r9.1
    rw [e11]
    refine wt_T_if (fun h14 => ?_) (fun h14 => ?_)
    · skip
      have c15 := wt_cle h14
      refine wt_T_some ?_
      exact rfl
    · skip
      have c16 := wt_ncle h14
      refine wt_T_bi (wq_ap_look n hn 40 ((x1 * (12 : Int32)) + z2.2.1) σ) (fun r17 h18 => ?_)
      obtain ⟨e19, e19v⟩ := h18
      have e20 := wt_ceq e19v
      have bb21 := wt_bd (wt_lk 40 ((x1 * (12 : Int32)) + z2.2.1) σ)
      have bb22 := wt_bd r17.1
      rw [e19]
      refine hKK1 _ ⟨rfl, (wt_nn (B := wt_lk 5 x1 z2.2.2) (by omega) (by first | (rw [l4]; omega) | (rw [l4]; done) | omega))⟩ ?_
      show ((wt_lk 5 x1 σ).toInt - (z2.2.1 + (1 : Int32)).toInt + 0).toNat < ((wt_lk 5 x1 z2.2.2).toInt - z2.2.1.toInt + 0).toNat
      exact wt_mu (by first | (rw [l4]; omega) | (rw [l4]; done) | omega) (by first | (rw [l4]; omega) | (rw [l4]; done) | omega)
  · skip
    have bb23 := wt_bd (wt_lk 5 x1 σ)
    exact ⟨rfl, (show 0 ≤ ((0 : Int32)).toInt by omega)⟩
  · skip
    have bb24 := wt_bd (wt_lk 5 x1 σ)
    show ((wt_lk 5 x1 σ).toInt - (0 : Int32).toInt + 0).toNat < n
    omega
set_option maxRecDepth 100000 in
set_option maxHeartbeats 4000000 in
theorem wq_sk_wornOut (n : Nat) (hn : 4294967297 < n) (x1 : Int32) (σ : wt_St) : wt_T (wp_sk_wornOut n x1 σ) (fun q => q.2 = σ) := by
  unfold wp_sk_wornOut
  have k6 : (0 : Int32).toInt = 0 := by decide
  refine wt_T_it (fun s : Int32 × Int32 × wt_St => s.2.2 = σ ∧ 0 ≤ (s.2.1).toInt) (fun s : Int32 × Int32 × wt_St => ((wt_lk 5 x1 s.2.2).toInt - s.2.1.toInt + 0).toNat) (fun KK1 z2 I3 hKK1 => ?_) _ _ ?_ ?_
  · skip
    obtain ⟨l4, l5⟩ := I3
    unfold wp_sk_wornOut_B4
    rw [l4]
    have bb7 := wt_bd (wt_lk 5 x1 σ)
    have bb8 := wt_bd z2.2.1
    refine wt_T_bi (wq_sk_pieces n hn x1 σ) (fun r9 h10 => ?_)
    obtain ⟨e11, e11v⟩ := h10
    have e12 := wt_ceq e11v
    have bb13 := wt_bd r9.1
    rw [e11]
    refine wt_T_if (fun h14 => ?_) (fun h14 => ?_)
    · skip
      have c15 := wt_cle h14
      refine wt_T_some ?_
      exact rfl
    · skip
      have c16 := wt_ncle h14
      refine wt_T_bi (wq_ap_look n hn 40 ((x1 * (12 : Int32)) + z2.2.1) σ) (fun r17 h18 => ?_)
      obtain ⟨e19, e19v⟩ := h18
      have e20 := wt_ceq e19v
      have bb21 := wt_bd (wt_lk 40 ((x1 * (12 : Int32)) + z2.2.1) σ)
      have bb22 := wt_bd r17.1
      rw [e19]
      refine wt_T_if (fun h23 => ?_) (fun h23 => ?_)
      · skip
        have c24 := wt_ceq h23
        unfold wp_sk_wornOut_B38
        refine hKK1 _ ⟨rfl, (wt_nn (B := wt_lk 5 x1 z2.2.2) (by omega) (by first | (rw [l4]; omega) | (rw [l4]; done) | omega))⟩ ?_
        show ((wt_lk 5 x1 σ).toInt - (z2.2.1 + (1 : Int32)).toInt + 0).toNat < ((wt_lk 5 x1 z2.2.2).toInt - z2.2.1.toInt + 0).toNat
        exact wt_mu (by first | (rw [l4]; omega) | (rw [l4]; done) | omega) (by first | (rw [l4]; omega) | (rw [l4]; done) | omega)
      · skip
        have c25 := wt_nceq h23
        unfold wp_sk_wornOut_B38
        refine hKK1 _ ⟨rfl, (wt_nn (B := wt_lk 5 x1 z2.2.2) (by omega) (by first | (rw [l4]; omega) | (rw [l4]; done) | omega))⟩ ?_
        show ((wt_lk 5 x1 σ).toInt - (z2.2.1 + (1 : Int32)).toInt + 0).toNat < ((wt_lk 5 x1 z2.2.2).toInt - z2.2.1.toInt + 0).toNat
        exact wt_mu (by first | (rw [l4]; omega) | (rw [l4]; done) | omega) (by first | (rw [l4]; omega) | (rw [l4]; done) | omega)
  · skip
    have bb26 := wt_bd (wt_lk 5 x1 σ)
    exact ⟨rfl, (show 0 ≤ ((0 : Int32)).toInt by omega)⟩
  · skip
    have bb27 := wt_bd (wt_lk 5 x1 σ)
    show ((wt_lk 5 x1 σ).toInt - (0 : Int32).toInt + 0).toNat < n
    omega
set_option maxRecDepth 100000 in
set_option maxHeartbeats 4000000 in
theorem wq_wk_wordsLost (n : Nat) (hn : 4294967297 < n) (σ : wt_St) : wt_T (wp_wk_wordsLost n σ) (fun q => wt_fr (fun i k => False) (fun i => i = 100) σ q.2) := by
  unfold wp_wk_wordsLost
  have k6 : (0 : Int32).toInt = 0 := by decide
  refine wt_T_it (fun s : Int32 × Int32 × wt_St => wt_fr (fun i k => False) (fun i => i = 100) σ s.2.2 ∧ 0 ≤ (s.2.1).toInt) (fun s : Int32 × Int32 × wt_St => ((wt_gf s.2.2 20 6).toInt - s.2.1.toInt + 0).toNat) (fun KK1 z2 I3 hKK1 => ?_) _ _ ?_ ?_
  · skip
    obtain ⟨l4, l5⟩ := I3
    unfold wp_wk_wordsLost_B4
    have bb7 := wt_bd (wt_gf z2.2.2 20 6)
    have tt8 : (wt_gf z2.2.2 20 6).toInt = (wt_gf σ 20 6).toInt := congrArg Int32.toInt (l4.1 20 6 (fun z => z))
    have bb9 := wt_bd (wt_gf σ 20 6)
    have bb10 := wt_bd z2.2.1
    refine wt_T_if (fun h11 => ?_) (fun h11 => ?_)
    · skip
      have c12 := wt_cle h11
      refine wt_T_some ?_
      exact (wt_fr.tr wt_fr.rf l4 (fun i k h => h.elim) (fun i h => by (try dsimp only at h); exact (by first | exact h | omega)))
    · skip
      have c13 := wt_ncle h11
      refine wt_T_bi (wq_wk_stillSaid n hn z2.2.1 z2.2.2) (fun r14 h15 => ?_)
      have f16 := h15
      have bb17 := wt_bd r14.1
      refine wt_T_if (fun h18 => ?_) (fun h18 => ?_)
      · skip
        have c19 := wt_ceq h18
        unfold wp_wk_wordsLost_B29
        have bb20 := wt_bd (wt_gf r14.2 20 6)
        have tt21 : (wt_gf r14.2 20 6).toInt = (wt_gf z2.2.2 20 6).toInt := congrArg Int32.toInt (f16.1 20 6 (fun z => z))
        refine hKK1 _ ⟨(wt_fr.tr (wt_fr.tr wt_fr.rf l4 (fun i k h => h.elim) (fun i h => by (try dsimp only at h); exact (by first | exact h | omega))) f16 (fun i k h => h.elim) (fun i h => by (try dsimp only at h); exact (by first | exact h | omega))), (wt_nn (B := wt_gf z2.2.2 20 6) (by omega) (by omega))⟩ ?_
        show ((wt_gf r14.2 20 6).toInt - (z2.2.1 + (1 : Int32)).toInt + 0).toNat < ((wt_gf z2.2.2 20 6).toInt - z2.2.1.toInt + 0).toNat
        exact wt_mu (by omega) (by omega)
      · skip
        have c22 := wt_nceq h18
        unfold wp_wk_wordsLost_B29
        have bb23 := wt_bd (wt_gf r14.2 20 6)
        have tt24 : (wt_gf r14.2 20 6).toInt = (wt_gf z2.2.2 20 6).toInt := congrArg Int32.toInt (f16.1 20 6 (fun z => z))
        refine hKK1 _ ⟨(wt_fr.tr (wt_fr.tr wt_fr.rf l4 (fun i k h => h.elim) (fun i h => by (try dsimp only at h); exact (by first | exact h | omega))) f16 (fun i k h => h.elim) (fun i h => by (try dsimp only at h); exact (by first | exact h | omega))), (wt_nn (B := wt_gf z2.2.2 20 6) (by omega) (by omega))⟩ ?_
        show ((wt_gf r14.2 20 6).toInt - (z2.2.1 + (1 : Int32)).toInt + 0).toNat < ((wt_gf z2.2.2 20 6).toInt - z2.2.1.toInt + 0).toNat
        exact wt_mu (by omega) (by omega)
  · skip
    have bb25 := wt_bd (wt_gf σ 20 6)
    exact ⟨wt_fr.rf, (show 0 ≤ ((0 : Int32)).toInt by omega)⟩
  · skip
    have bb26 := wt_bd (wt_gf σ 20 6)
    show ((wt_gf σ 20 6).toInt - (0 : Int32).toInt + 0).toNat < n
    omega
set_option maxRecDepth 100000 in
set_option maxHeartbeats 4000000 in
theorem wq_wk_keep (n : Nat) (hn : 4294967297 < n) (x1 : Int32) (x2 : Int32) (σ : wt_St) : wt_T (wp_wk_keep n x1 x2 σ) (fun q => wt_fr (fun i k => (i = 86 ∧ k = 8) ∨ (i = 86 ∧ k = 9) ∨ (i = 86 ∧ k = 10)) (fun i => False) σ q) := by
  unfold wp_wk_keep
  have bb1 := wt_bd (wt_gf σ 86 8)
  have bb2 := wt_bd x1
  refine wt_T_if (fun h3 => ?_) (fun h3 => ?_)
  · skip
    have c4 := wt_clt h3
    unfold wp_wk_keep_B24
    obtain ⟨σ5, eσ5⟩ : ∃ z : wt_St, z = wt_sf σ 86 8 x1 := ⟨_, rfl⟩
    rw [← eσ5]
    have fσ5 := wt_fr_sf eσ5
    have vσ5 := wt_ceq (wt_v_sf eσ5)
    obtain ⟨σ6, eσ6⟩ : ∃ z : wt_St, z = wt_sf σ5 86 9 x2 := ⟨_, rfl⟩
    rw [← eσ6]
    have fσ6 := wt_fr_sf eσ6
    have vσ6 := wt_ceq (wt_v_sf eσ6)
    unfold wp_wk_keep_B34
    obtain ⟨σ7, eσ7⟩ : ∃ z : wt_St, z = wt_sf σ6 86 10 ((wt_gf σ6 86 10) + (1 : Int32)) := ⟨_, rfl⟩
    rw [← eσ7]
    have fσ7 := wt_fr_sf eσ7
    have vσ7 := wt_ceq (wt_v_sf eσ7)
    refine wt_T_some ?_
    exact (wt_fr.tr (wt_fr.tr (wt_fr.tr wt_fr.rf fσ5 (fun i k h => by (try dsimp only at h); exact Or.inl (by first | exact h | omega)) (fun i h => h.elim)) fσ6 (fun i k h => by (try dsimp only at h); exact Or.inr (Or.inl (by first | exact h | omega))) (fun i h => h.elim)) fσ7 (fun i k h => by (try dsimp only at h); exact Or.inr (Or.inr (by first | exact h | omega))) (fun i h => h.elim))
  · skip
    have c8 := wt_ncl h3
    refine wt_T_if (fun h9 => ?_) (fun h9 => ?_)
    · skip
      have c10 := wt_ceq h9
      have bb11 := wt_bd (wt_gf σ 86 9)
      have bb12 := wt_bd x2
      refine wt_T_if (fun h13 => ?_) (fun h13 => ?_)
      · skip
        have c14 := wt_cle h13
        unfold wp_wk_keep_B34
        obtain ⟨σ15, eσ15⟩ : ∃ z : wt_St, z = wt_sf σ 86 10 ((wt_gf σ 86 10) + (1 : Int32)) := ⟨_, rfl⟩
        rw [← eσ15]
        have fσ15 := wt_fr_sf eσ15
        have vσ15 := wt_ceq (wt_v_sf eσ15)
        refine wt_T_some ?_
        exact (wt_fr.tr wt_fr.rf fσ15 (fun i k h => by (try dsimp only at h); exact Or.inr (Or.inr (by first | exact h | omega))) (fun i h => h.elim))
      · skip
        have c16 := wt_ncle h13
        unfold wp_wk_keep_B24
        obtain ⟨σ17, eσ17⟩ : ∃ z : wt_St, z = wt_sf σ 86 8 x1 := ⟨_, rfl⟩
        rw [← eσ17]
        have fσ17 := wt_fr_sf eσ17
        have vσ17 := wt_ceq (wt_v_sf eσ17)
        obtain ⟨σ18, eσ18⟩ : ∃ z : wt_St, z = wt_sf σ17 86 9 x2 := ⟨_, rfl⟩
        rw [← eσ18]
        have fσ18 := wt_fr_sf eσ18
        have vσ18 := wt_ceq (wt_v_sf eσ18)
        unfold wp_wk_keep_B34
        obtain ⟨σ19, eσ19⟩ : ∃ z : wt_St, z = wt_sf σ18 86 10 ((wt_gf σ18 86 10) + (1 : Int32)) := ⟨_, rfl⟩
        rw [← eσ19]
        have fσ19 := wt_fr_sf eσ19
        have vσ19 := wt_ceq (wt_v_sf eσ19)
        refine wt_T_some ?_
        exact (wt_fr.tr (wt_fr.tr (wt_fr.tr wt_fr.rf fσ17 (fun i k h => by (try dsimp only at h); exact Or.inl (by first | exact h | omega)) (fun i h => h.elim)) fσ18 (fun i k h => by (try dsimp only at h); exact Or.inr (Or.inl (by first | exact h | omega))) (fun i h => h.elim)) fσ19 (fun i k h => by (try dsimp only at h); exact Or.inr (Or.inr (by first | exact h | omega))) (fun i h => h.elim))
    · skip
      have c20 := wt_nceq h9
      unfold wp_wk_keep_B34
      obtain ⟨σ21, eσ21⟩ : ∃ z : wt_St, z = wt_sf σ 86 10 ((wt_gf σ 86 10) + (1 : Int32)) := ⟨_, rfl⟩
      rw [← eσ21]
      have fσ21 := wt_fr_sf eσ21
      have vσ21 := wt_ceq (wt_v_sf eσ21)
      refine wt_T_some ?_
      exact (wt_fr.tr wt_fr.rf fσ21 (fun i k h => by (try dsimp only at h); exact Or.inr (Or.inr (by first | exact h | omega))) (fun i h => h.elim))
set_option maxRecDepth 100000 in
set_option maxHeartbeats 4000000 in
theorem wq_wk_tryFrom_b (n : Nat) (hn : 4294967297 < n) (a1 : Nat) (R : Nat × Int32 × Int32 × Int32 × wt_St → Option (wt_St)) (x2 : Int32) (x3 : Int32) (x4 : Int32) (σ : wt_St) (h0 : 0 ≤ x2.toInt) (hR : ∀ z : Nat × Int32 × Int32 × Int32 × wt_St, 0 ≤ (z.2.1).toInt → (10 - (z.2.1).toInt).toNat < (10 - x2.toInt).toNat → wt_T (R z) (fun q => wt_fr (fun i k => (i = 86 ∧ k = 8) ∨ (i = 86 ∧ k = 9) ∨ (i = 86 ∧ k = 10)) (fun i => (88 ≤ i ∧ i < 98) ∨ i = 100) z.2.2.2.2 q)) : wt_T (wp_wk_tryFrom_b n a1 R x2 x3 x4 σ) (fun q => wt_fr (fun i k => (i = 86 ∧ k = 8) ∨ (i = 86 ∧ k = 9) ∨ (i = 86 ∧ k = 10)) (fun i => (88 ≤ i ∧ i < 98) ∨ i = 100) σ q) := by
  unfold wp_wk_tryFrom_b
  have bb1 := wt_bd x2
  have k2 : (0 : Int32).toInt = 0 := by decide
  refine wt_T_if (fun h3 => ?_) (fun h3 => ?_)
  · skip
    have c4 := wt_clt h3
    unfold wp_wk_tryFrom_B24
    refine wt_T_bi (wq_wk_keep n hn x3 x4 σ) (fun r5 h6 => ?_)
    have f7 := h6
    refine wt_T_some ?_
    exact (wt_fr.tr wt_fr.rf f7 (fun i k h => by (try dsimp only at h); rcases h with h | h | h; exact Or.inl (by first | exact h | omega); exact Or.inr (Or.inl (by first | exact h | omega)); exact Or.inr (Or.inr (by first | exact h | omega))) (fun i h => h.elim))
  · skip
    have c8 := wt_ncl h3
    have bb9 := wt_bd (wt_gf σ 39 8)
    refine wt_T_if (fun h10 => ?_) (fun h10 => ?_)
    · skip
      have c11 := wt_cle h10
      unfold wp_wk_tryFrom_B24
      refine wt_T_bi (wq_wk_keep n hn x3 x4 σ) (fun r12 h13 => ?_)
      have f14 := h13
      refine wt_T_some ?_
      exact (wt_fr.tr wt_fr.rf f14 (fun i k h => by (try dsimp only at h); rcases h with h | h | h; exact Or.inl (by first | exact h | omega); exact Or.inr (Or.inl (by first | exact h | omega)); exact Or.inr (Or.inr (by first | exact h | omega))) (fun i h => h.elim))
    · skip
      have c15 := wt_ncle h10
      have k16 : (10 : Int32).toInt = 10 := by decide
      refine wt_T_if (fun h17 => ?_) (fun h17 => ?_)
      · skip
        have c18 := wt_clt h17
        refine wt_T_bi (hR (a1, x2 + (1 : Int32), x3, x4, σ) (show 0 ≤ (x2 + (1 : Int32)).toInt by rw [wt_i1 (by omega)]; omega) (show (10 - (x2 + (1 : Int32)).toInt).toNat < (10 - (x2).toInt).toNat by rw [wt_i1 (by omega)]; omega)) (fun r20 h19 => ?_)
        have f21 : wt_fr (fun i k => (i = 86 ∧ k = 8) ∨ (i = 86 ∧ k = 9) ∨ (i = 86 ∧ k = 10)) (fun i => (88 ≤ i ∧ i < 98) ∨ i = 100) σ r20 := h19
        refine wt_T_gd (wt_ix (by omega) (by omega)) ?_
        have bb22 := wt_tn x2
        refine wt_T_bi (wq_ap_copyRow n hn a1 (88 + (Int32.toNatClampNeg x2)) r20) (fun r23 h24 => ?_)
        have f25 := h24
        refine wt_T_bi (wq_ap_look n hn 99 x2 r23) (fun r26 h27 => ?_)
        obtain ⟨e28, e28v⟩ := h27
        have e29 := wt_ceq e28v
        have bb30 := wt_bd (wt_lk 99 x2 r23)
        have bb31 := wt_bd r26.1
        rw [e28]
        refine wt_T_bi (wq_wk_printOne n hn (88 + (Int32.toNatClampNeg x2)) r26.1 r23 (by omega)) (fun r32 h33 => ?_)
        have f34 := h33
        have bb35 := wt_bd r32.1
        refine wt_T_if (fun h36 => ?_) (fun h36 => ?_)
        · skip
          have c37 := wt_ceq h36
          refine wt_T_some ?_
          exact (wt_fr.tr (wt_fr.tr (wt_fr.tr wt_fr.rf f21 (fun i k h => by (try dsimp only at h); rcases h with h | h | h; exact Or.inl (by first | exact h | omega); exact Or.inr (Or.inl (by first | exact h | omega)); exact Or.inr (Or.inr (by first | exact h | omega))) (fun i h => by (try dsimp only at h); rcases h with h | h; exact Or.inl (by first | exact h | omega); exact Or.inr (by first | exact h | omega))) f25 (fun i k h => h.elim) (fun i h => by (try dsimp only at h); exact Or.inl (by first | exact h | omega))) f34 (fun i k h => h.elim) (fun i h => by (try dsimp only at h); rcases h with h | h; exact Or.inr (by first | exact h | omega); exact Or.inl (by first | exact h | omega)))
        · skip
          have c38 := wt_nceq h36
          refine wt_T_bi (wq_ap_look n hn 47 r26.1 r32.2) (fun r39 h40 => ?_)
          obtain ⟨e41, e41v⟩ := h40
          have e42 := wt_ceq e41v
          have bb43 := wt_bd (wt_lk 47 r26.1 r32.2)
          have bb44 := wt_bd r39.1
          rw [e41]
          refine wt_T_bi (hR (88 + (Int32.toNatClampNeg x2), x2 + (1 : Int32), x3 + r39.1, x4 ||| ((1 : Int32) <<< (r26.1 &&& 31)), r32.2) (show 0 ≤ (x2 + (1 : Int32)).toInt by rw [wt_i1 (by omega)]; omega) (show (10 - (x2 + (1 : Int32)).toInt).toNat < (10 - (x2).toInt).toNat by rw [wt_i1 (by omega)]; omega)) (fun r46 h45 => ?_)
          have f47 : wt_fr (fun i k => (i = 86 ∧ k = 8) ∨ (i = 86 ∧ k = 9) ∨ (i = 86 ∧ k = 10)) (fun i => (88 ≤ i ∧ i < 98) ∨ i = 100) r32.2 r46 := h45
          refine wt_T_some ?_
          exact (wt_fr.tr (wt_fr.tr (wt_fr.tr (wt_fr.tr wt_fr.rf f21 (fun i k h => by (try dsimp only at h); rcases h with h | h | h; exact Or.inl (by first | exact h | omega); exact Or.inr (Or.inl (by first | exact h | omega)); exact Or.inr (Or.inr (by first | exact h | omega))) (fun i h => by (try dsimp only at h); rcases h with h | h; exact Or.inl (by first | exact h | omega); exact Or.inr (by first | exact h | omega))) f25 (fun i k h => h.elim) (fun i h => by (try dsimp only at h); exact Or.inl (by first | exact h | omega))) f34 (fun i k h => h.elim) (fun i h => by (try dsimp only at h); rcases h with h | h; exact Or.inr (by first | exact h | omega); exact Or.inl (by first | exact h | omega))) f47 (fun i k h => by (try dsimp only at h); rcases h with h | h | h; exact Or.inl (by first | exact h | omega); exact Or.inr (Or.inl (by first | exact h | omega)); exact Or.inr (Or.inr (by first | exact h | omega))) (fun i h => by (try dsimp only at h); rcases h with h | h; exact Or.inl (by first | exact h | omega); exact Or.inr (by first | exact h | omega)))
      · skip
        have c48 := wt_ncl h17
        unfold wp_wk_tryFrom_B24
        refine wt_T_bi (wq_wk_keep n hn x3 x4 σ) (fun r49 h50 => ?_)
        have f51 := h50
        refine wt_T_some ?_
        exact (wt_fr.tr wt_fr.rf f51 (fun i k h => by (try dsimp only at h); rcases h with h | h | h; exact Or.inl (by first | exact h | omega); exact Or.inr (Or.inl (by first | exact h | omega)); exact Or.inr (Or.inr (by first | exact h | omega))) (fun i h => h.elim))
set_option maxRecDepth 100000 in
theorem wq_wk_tryFrom (n : Nat) (hn : 4294967297 < n) (a1 : Nat) (x2 : Int32) (x3 : Int32) (x4 : Int32) (σ : wt_St) (h0 : 0 ≤ x2.toInt) (hb : x2.toInt ≤ 10) : wt_T (wp_wk_tryFrom n a1 x2 x3 x4 σ) (fun q => wt_fr (fun i k => (i = 86 ∧ k = 8) ∨ (i = 86 ∧ k = 9) ∨ (i = 86 ∧ k = 10)) (fun i => (88 ≤ i ∧ i < 98) ∨ i = 100) σ q) := by
  unfold wp_wk_tryFrom
  refine wt_T_rec (fun z : Nat × Int32 × Int32 × Int32 × wt_St => 0 ≤ (z.2.1).toInt) (fun z : Nat × Int32 × Int32 × Int32 × wt_St => (10 - (z.2.1).toInt).toNat) (fun (z : Nat × Int32 × Int32 × Int32 × wt_St) (q : wt_St) => wt_fr (fun i k => (i = 86 ∧ k = 8) ∨ (i = 86 ∧ k = 9) ∨ (i = 86 ∧ k = 10)) (fun i => (88 ≤ i ∧ i < 98) ∨ i = 100) z.2.2.2.2 q) (fun R z hI hR => ?_) 16 _ h0 (show (10 - x2.toInt).toNat < 16 by omega)
  exact wq_wk_tryFrom_b n hn z.1 R z.2.1 z.2.2.1 z.2.2.2.1 z.2.2.2.2 hI hR
set_option maxRecDepth 100000 in
set_option maxHeartbeats 4000000 in
theorem wq_wk_findMost (n : Nat) (hn : 4294967297 < n) (σ : wt_St) : wt_T (wp_wk_findMost n σ) (fun q => wt_fr (fun i k => (i = 86 ∧ k = 8) ∨ (i = 86 ∧ k = 9) ∨ (i = 86 ∧ k = 10)) (fun i => i = 99 ∨ (88 ≤ i ∧ i < 98) ∨ i = 100) σ q) := by
  unfold wp_wk_findMost
  refine wt_T_bi (wq_wk_sortByWeek n hn σ) (fun r1 h2 => ?_)
  have f3 := h2
  obtain ⟨σ4, eσ4⟩ : ∃ z : wt_St, z = wt_sf r1 86 8 (0 : Int32) := ⟨_, rfl⟩
  rw [← eσ4]
  have fσ4 := wt_fr_sf eσ4
  have vσ4 := wt_ceq (wt_v_sf eσ4)
  obtain ⟨σ5, eσ5⟩ : ∃ z : wt_St, z = wt_sf σ4 86 9 (0 : Int32) := ⟨_, rfl⟩
  rw [← eσ5]
  have fσ5 := wt_fr_sf eσ5
  have vσ5 := wt_ceq (wt_v_sf eσ5)
  obtain ⟨σ6, eσ6⟩ : ∃ z : wt_St, z = wt_sf σ5 86 10 (0 : Int32) := ⟨_, rfl⟩
  rw [← eσ6]
  have fσ6 := wt_fr_sf eσ6
  have vσ6 := wt_ceq (wt_v_sf eσ6)
  refine wt_T_bi (wq_wk_tryFrom n hn 40 (0 : Int32) (0 : Int32) (0 : Int32) σ6 (by decide) (by decide)) (fun r7 h8 => ?_)
  have f9 := h8
  refine wt_T_some ?_
  exact (wt_fr.tr (wt_fr.tr (wt_fr.tr (wt_fr.tr (wt_fr.tr wt_fr.rf f3 (fun i k h => h.elim) (fun i h => by (try dsimp only at h); exact Or.inl (by first | exact h | omega))) fσ4 (fun i k h => by (try dsimp only at h); exact Or.inl (by first | exact h | omega)) (fun i h => h.elim)) fσ5 (fun i k h => by (try dsimp only at h); exact Or.inr (Or.inl (by first | exact h | omega))) (fun i h => h.elim)) fσ6 (fun i k h => by (try dsimp only at h); exact Or.inr (Or.inr (by first | exact h | omega))) (fun i h => h.elim)) f9 (fun i k h => by (try dsimp only at h); rcases h with h | h | h; exact Or.inl (by first | exact h | omega); exact Or.inr (Or.inl (by first | exact h | omega)); exact Or.inr (Or.inr (by first | exact h | omega))) (fun i h => by (try dsimp only at h); rcases h with h | h; exact Or.inr (Or.inl (by first | exact h | omega)); exact Or.inr (Or.inr (by first | exact h | omega))))
set_option maxRecDepth 100000 in
set_option maxHeartbeats 4000000 in
theorem wq_pg_isFaint (n : Nat) (hn : 4294967297 < n) (x1 : Int32) (σ : wt_St) : wt_T (wp_pg_isFaint n x1 σ) (fun q => q.2 = σ) := by
  unfold wp_pg_isFaint
  refine wt_T_bi (wq_ap_look n hn 40 x1 σ) (fun r1 h2 => ?_)
  obtain ⟨e3, e3v⟩ := h2
  have e4 := wt_ceq e3v
  have bb5 := wt_bd (wt_lk 40 x1 σ)
  have bb6 := wt_bd r1.1
  rw [e3]
  have bb7 := wt_bd (wt_gf σ 4 7)
  refine wt_T_if (fun h8 => ?_) (fun h8 => ?_)
  · skip
    have c9 := wt_cle h8
    refine wt_T_some ?_
    exact rfl
  · skip
    have c10 := wt_ncle h8
    refine wt_T_some ?_
    exact rfl
set_option maxRecDepth 100000 in
set_option maxHeartbeats 4000000 in
theorem wq_pg_faintOn (n : Nat) (hn : 4294967297 < n) (x1 : Int32) (σ : wt_St) : wt_T (wp_pg_faintOn n x1 σ) (fun q => q.2 = σ) := by
  unfold wp_pg_faintOn
  have k6 : (0 : Int32).toInt = 0 := by decide
  refine wt_T_it (fun s : Int32 × Int32 × wt_St => s.2.2 = σ ∧ 0 ≤ (s.2.1).toInt) (fun s : Int32 × Int32 × wt_St => ((312 : Int32).toInt - s.2.1.toInt + 0).toNat) (fun KK1 z2 I3 hKK1 => ?_) _ _ ?_ ?_
  · skip
    obtain ⟨l4, l5⟩ := I3
    unfold wp_pg_faintOn_B4
    rw [l4]
    have k7 : (312 : Int32).toInt = 312 := by decide
    have bb8 := wt_bd z2.2.1
    refine wt_T_if (fun h9 => ?_) (fun h9 => ?_)
    · skip
      have c10 := wt_cle h9
      refine wt_T_some ?_
      exact rfl
    · skip
      have c11 := wt_ncle h9
      refine wt_T_bi (wq_ap_look n hn 41 z2.2.1 σ) (fun r12 h13 => ?_)
      obtain ⟨e14, e14v⟩ := h13
      have e15 := wt_ceq e14v
      have bb16 := wt_bd (wt_lk 41 z2.2.1 σ)
      have bb17 := wt_bd r12.1
      rw [e14]
      have bb18 := wt_bd x1
      refine wt_T_if (fun h19 => ?_) (fun h19 => ?_)
      · skip
        have c20 := wt_ceq h19
        refine wt_T_bi (wq_pg_isFaint n hn z2.2.1 σ) (fun r21 h22 => ?_)
        have e23 := h22
        rw [e23]
        have bb24 := wt_bd r21.1
        refine wt_T_if (fun h25 => ?_) (fun h25 => ?_)
        · skip
          have c26 := wt_ceq h25
          unfold wp_pg_faintOn_B39
          unfold wp_pg_faintOn_B40
          refine hKK1 _ ⟨rfl, (wt_nn (B := (312 : Int32)) (by omega) (by first | (rw [l4]; omega) | (rw [l4]; done) | omega))⟩ ?_
          show ((312 : Int32).toInt - (z2.2.1 + (1 : Int32)).toInt + 0).toNat < ((312 : Int32).toInt - z2.2.1.toInt + 0).toNat
          exact wt_mu (by first | (rw [l4]; omega) | (rw [l4]; done) | omega) (by first | (rw [l4]; omega) | (rw [l4]; done) | omega)
        · skip
          have c27 := wt_nceq h25
          unfold wp_pg_faintOn_B40
          refine hKK1 _ ⟨rfl, (wt_nn (B := (312 : Int32)) (by omega) (by first | (rw [l4]; omega) | (rw [l4]; done) | omega))⟩ ?_
          show ((312 : Int32).toInt - (z2.2.1 + (1 : Int32)).toInt + 0).toNat < ((312 : Int32).toInt - z2.2.1.toInt + 0).toNat
          exact wt_mu (by first | (rw [l4]; omega) | (rw [l4]; done) | omega) (by first | (rw [l4]; omega) | (rw [l4]; done) | omega)
      · skip
        have c28 := wt_nceq h19
        unfold wp_pg_faintOn_B39
        unfold wp_pg_faintOn_B40
        refine hKK1 _ ⟨rfl, (wt_nn (B := (312 : Int32)) (by omega) (by first | (rw [l4]; omega) | (rw [l4]; done) | omega))⟩ ?_
        show ((312 : Int32).toInt - (z2.2.1 + (1 : Int32)).toInt + 0).toNat < ((312 : Int32).toInt - z2.2.1.toInt + 0).toNat
        exact wt_mu (by first | (rw [l4]; omega) | (rw [l4]; done) | omega) (by first | (rw [l4]; omega) | (rw [l4]; done) | omega)
  · skip
    have k29 : (312 : Int32).toInt = 312 := by decide
    exact ⟨rfl, (show 0 ≤ ((0 : Int32)).toInt by omega)⟩
  · skip
    have k30 : (312 : Int32).toInt = 312 := by decide
    show ((312 : Int32).toInt - (0 : Int32).toInt + 0).toNat < n
    omega
set_option maxRecDepth 100000 in
set_option maxHeartbeats 4000000 in
theorem wq_pg_leastLeftOn (n : Nat) (hn : 4294967297 < n) (x1 : Int32) (σ : wt_St) : wt_T (wp_pg_leastLeftOn n x1 σ) (fun q => q.2 = σ) := by
  unfold wp_pg_leastLeftOn
  have k6 : (0 : Int32).toInt = 0 := by decide
  refine wt_T_it (fun s : Int32 × Int32 × wt_St => s.2.2 = σ ∧ 0 ≤ (s.2.1).toInt) (fun s : Int32 × Int32 × wt_St => ((312 : Int32).toInt - s.2.1.toInt + 0).toNat) (fun KK1 z2 I3 hKK1 => ?_) _ _ ?_ ?_
  · skip
    obtain ⟨l4, l5⟩ := I3
    unfold wp_pg_leastLeftOn_B5
    rw [l4]
    have k7 : (312 : Int32).toInt = 312 := by decide
    have bb8 := wt_bd z2.2.1
    refine wt_T_if (fun h9 => ?_) (fun h9 => ?_)
    · skip
      have c10 := wt_cle h9
      refine wt_T_some ?_
      exact rfl
    · skip
      have c11 := wt_ncle h9
      refine wt_T_bi (wq_ap_look n hn 41 z2.2.1 σ) (fun r12 h13 => ?_)
      obtain ⟨e14, e14v⟩ := h13
      have e15 := wt_ceq e14v
      have bb16 := wt_bd (wt_lk 41 z2.2.1 σ)
      have bb17 := wt_bd r12.1
      rw [e14]
      have bb18 := wt_bd x1
      refine wt_T_if (fun h19 => ?_) (fun h19 => ?_)
      · skip
        have c20 := wt_ceq h19
        refine wt_T_bi (wq_ap_look n hn 40 z2.2.1 σ) (fun r21 h22 => ?_)
        obtain ⟨e23, e23v⟩ := h22
        have e24 := wt_ceq e23v
        have bb25 := wt_bd (wt_lk 40 z2.2.1 σ)
        have bb26 := wt_bd r21.1
        rw [e23]
        unfold wp_pg_leastLeftOn_B43
        refine hKK1 _ ⟨rfl, (wt_nn (B := (312 : Int32)) (by omega) (by first | (rw [l4]; omega) | (rw [l4]; done) | omega))⟩ ?_
        show ((312 : Int32).toInt - (z2.2.1 + (1 : Int32)).toInt + 0).toNat < ((312 : Int32).toInt - z2.2.1.toInt + 0).toNat
        exact wt_mu (by first | (rw [l4]; omega) | (rw [l4]; done) | omega) (by first | (rw [l4]; omega) | (rw [l4]; done) | omega)
      · skip
        have c27 := wt_nceq h19
        unfold wp_pg_leastLeftOn_B43
        refine hKK1 _ ⟨rfl, (wt_nn (B := (312 : Int32)) (by omega) (by first | (rw [l4]; omega) | (rw [l4]; done) | omega))⟩ ?_
        show ((312 : Int32).toInt - (z2.2.1 + (1 : Int32)).toInt + 0).toNat < ((312 : Int32).toInt - z2.2.1.toInt + 0).toNat
        exact wt_mu (by first | (rw [l4]; omega) | (rw [l4]; done) | omega) (by first | (rw [l4]; omega) | (rw [l4]; done) | omega)
  · skip
    have k28 : (312 : Int32).toInt = 312 := by decide
    exact ⟨rfl, (show 0 ≤ ((0 : Int32)).toInt by omega)⟩
  · skip
    have k29 : (312 : Int32).toInt = 312 := by decide
    show ((312 : Int32).toInt - (0 : Int32).toInt + 0).toNat < n
    omega
set_option maxRecDepth 100000 in
set_option maxHeartbeats 4000000 in
theorem wq_pg_readLetter (n : Nat) (hn : 4294967297 < n) (x1 : Int32) (x2 : Int32) (x3 : Int32) (σ : wt_St) : wt_T (wp_pg_readLetter n x1 x2 x3 σ) (fun q => q.2 = σ) := by
  unfold wp_pg_readLetter
  refine wt_T_bi (wq_ap_look n hn 10 x2 σ) (fun r1 h2 => ?_)
  obtain ⟨e3, e3v⟩ := h2
  have e4 := wt_ceq e3v
  have bb5 := wt_bd (wt_lk 10 x2 σ)
  have bb6 := wt_bd r1.1
  rw [e3]
  have k12 : (0 : Int32).toInt = 0 := by decide
  refine wt_T_it (fun s : Int32 × wt_St => s.2 = σ ∧ 0 ≤ (s.1).toInt) (fun s : Int32 × wt_St => ((wt_lk 5 x2 s.2).toInt - s.1.toInt + 0).toNat) (fun KK7 z8 I9 hKK7 => ?_) _ _ ?_ ?_
  · skip
    obtain ⟨l10, l11⟩ := I9
    unfold wp_pg_readLetter_B16
    rw [l10]
    have bb13 := wt_bd (wt_lk 5 x2 σ)
    have bb14 := wt_bd z8.1
    refine wt_T_bi (wq_sk_pieces n hn x2 σ) (fun r15 h16 => ?_)
    obtain ⟨e17, e17v⟩ := h16
    have e18 := wt_ceq e17v
    have bb19 := wt_bd r15.1
    rw [e17]
    refine wt_T_if (fun h20 => ?_) (fun h20 => ?_)
    · skip
      have c21 := wt_cle h20
      refine wt_T_some ?_
      exact rfl
    · skip
      have c22 := wt_ncle h20
      refine wt_T_bi (wq_ap_look n hn 41 ((x2 * (12 : Int32)) + z8.1) σ) (fun r23 h24 => ?_)
      obtain ⟨e25, e25v⟩ := h24
      have e26 := wt_ceq e25v
      have bb27 := wt_bd (wt_lk 41 ((x2 * (12 : Int32)) + z8.1) σ)
      have bb28 := wt_bd r23.1
      rw [e25]
      have bb29 := wt_bd x1
      refine wt_T_if (fun h30 => ?_) (fun h30 => ?_)
      · skip
        have c31 := wt_ceq h30
        refine wt_T_bi (wq_ap_look n hn 42 ((x2 * (12 : Int32)) + z8.1) σ) (fun r32 h33 => ?_)
        obtain ⟨e34, e34v⟩ := h33
        have e35 := wt_ceq e34v
        have bb36 := wt_bd (wt_lk 42 ((x2 * (12 : Int32)) + z8.1) σ)
        have bb37 := wt_bd r32.1
        rw [e34]
        have bb38 := wt_bd x3
        refine wt_T_if (fun h39 => ?_) (fun h39 => ?_)
        · skip
          have c40 := wt_ceq h39
          refine wt_T_bi (wq_pg_isFaint n hn ((x2 * (12 : Int32)) + z8.1) σ) (fun r41 h42 => ?_)
          have e43 := h42
          rw [e43]
          have bb44 := wt_bd r41.1
          refine wt_T_if (fun h45 => ?_) (fun h45 => ?_)
          · skip
            have c46 := wt_ceq h45
            refine wt_T_some ?_
            exact rfl
          · skip
            have c47 := wt_nceq h45
            refine wt_T_if (fun h48 => ?_) (fun h48 => ?_)
            · skip
              have c49 := wt_ceq h48
              rw [wt_lm1] at c49
              refine wt_T_some ?_
              exact rfl
            · skip
              have c50 := wt_nceq h48
              rw [wt_lm1] at c50
              refine wt_T_some ?_
              exact rfl
        · skip
          have c51 := wt_nceq h39
          unfold wp_pg_readLetter_B92
          refine hKK7 _ ⟨rfl, (wt_nn (B := wt_lk 5 x2 z8.2) (by omega) (by first | (rw [l10]; omega) | (rw [l10]; done) | omega))⟩ ?_
          show ((wt_lk 5 x2 σ).toInt - (z8.1 + (1 : Int32)).toInt + 0).toNat < ((wt_lk 5 x2 z8.2).toInt - z8.1.toInt + 0).toNat
          exact wt_mu (by first | (rw [l10]; omega) | (rw [l10]; done) | omega) (by first | (rw [l10]; omega) | (rw [l10]; done) | omega)
      · skip
        have c52 := wt_nceq h30
        unfold wp_pg_readLetter_B92
        refine hKK7 _ ⟨rfl, (wt_nn (B := wt_lk 5 x2 z8.2) (by omega) (by first | (rw [l10]; omega) | (rw [l10]; done) | omega))⟩ ?_
        show ((wt_lk 5 x2 σ).toInt - (z8.1 + (1 : Int32)).toInt + 0).toNat < ((wt_lk 5 x2 z8.2).toInt - z8.1.toInt + 0).toNat
        exact wt_mu (by first | (rw [l10]; omega) | (rw [l10]; done) | omega) (by first | (rw [l10]; omega) | (rw [l10]; done) | omega)
  · skip
    have bb53 := wt_bd (wt_lk 5 x2 σ)
    exact ⟨rfl, (show 0 ≤ ((0 : Int32)).toInt by omega)⟩
  · skip
    have bb54 := wt_bd (wt_lk 5 x2 σ)
    show ((wt_lk 5 x2 σ).toInt - (0 : Int32).toInt + 0).toNat < n
    omega
set_option maxRecDepth 100000 in
set_option maxHeartbeats 4000000 in
theorem wq_tg_isSpelled (n : Nat) (hn : 4294967297 < n) (t0 : Nat) (a2 : Nat) (x1 : Int32) (x3 : Int32) (σ : wt_St) : wt_T (wp_tg_isSpelled n t0 a2 x1 x3 σ) (fun q => q.2 = σ) := by
  unfold wp_tg_isSpelled
  have k6 : (0 : Int32).toInt = 0 := by decide
  refine wt_T_it (fun s : Int32 × wt_St => s.2 = σ ∧ 0 ≤ (s.1).toInt) (fun s : Int32 × wt_St => (x3.toInt - s.1.toInt + 0).toNat) (fun KK1 z2 I3 hKK1 => ?_) _ _ ?_ ?_
  · skip
    obtain ⟨l4, l5⟩ := I3
    unfold wp_tg_isSpelled_B3
    rw [l4]
    have bb7 := wt_bd x3
    have bb8 := wt_bd z2.1
    refine wt_T_if (fun h9 => ?_) (fun h9 => ?_)
    · skip
      have c10 := wt_cle h9
      refine wt_T_some ?_
      exact rfl
    · skip
      have c11 := wt_ncle h9
      refine wt_T_bi (wq_tg_letterAt n hn t0 x1 z2.1 σ) (fun r12 h13 => ?_)
      have e14 := h13
      rw [e14]
      refine wt_T_bi (wq_ap_look n hn a2 z2.1 σ) (fun r15 h16 => ?_)
      obtain ⟨e17, e17v⟩ := h16
      have e18 := wt_ceq e17v
      have bb19 := wt_bd (wt_lk a2 z2.1 σ)
      have bb20 := wt_bd r15.1
      rw [e17]
      have bb21 := wt_bd r12.1
      refine wt_T_if (fun h22 => ?_) (fun h22 => ?_)
      · skip
        have c23 := wt_ceq h22
        refine hKK1 _ ⟨rfl, (wt_nn (B := x3) (by omega) (by first | (rw [l4]; omega) | (rw [l4]; done) | omega))⟩ ?_
        show (x3.toInt - (z2.1 + (1 : Int32)).toInt + 0).toNat < (x3.toInt - z2.1.toInt + 0).toNat
        exact wt_mu (by first | (rw [l4]; omega) | (rw [l4]; done) | omega) (by first | (rw [l4]; omega) | (rw [l4]; done) | omega)
      · skip
        have c24 := wt_nceq h22
        refine wt_T_some ?_
        exact rfl
  · skip
    have bb25 := wt_bd x3
    exact ⟨rfl, (show 0 ≤ ((0 : Int32)).toInt by omega)⟩
  · skip
    have bb26 := wt_bd x3
    show (x3.toInt - (0 : Int32).toInt + 0).toNat < n
    omega
set_option maxRecDepth 100000 in
set_option maxHeartbeats 4000000 in
theorem wq_tg_find (n : Nat) (hn : 4294967297 < n) (t0 : Nat) (a1 : Nat) (x2 : Int32) (σ : wt_St) : wt_T (wp_tg_find n t0 a1 x2 σ) (fun q => q.2 = σ) := by
  unfold wp_tg_find
  have k6 : (0 : Int32).toInt = 0 := by decide
  refine wt_T_it (fun s : Int32 × wt_St => s.2 = σ ∧ 0 ≤ (s.1).toInt) (fun s : Int32 × wt_St => ((wt_gf s.2 t0 6).toInt - s.1.toInt + 0).toNat) (fun KK1 z2 I3 hKK1 => ?_) _ _ ?_ ?_
  · skip
    obtain ⟨l4, l5⟩ := I3
    unfold wp_tg_find_B2
    rw [l4]
    have bb7 := wt_bd (wt_gf σ t0 6)
    have bb8 := wt_bd z2.1
    refine wt_T_if (fun h9 => ?_) (fun h9 => ?_)
    · skip
      have c10 := wt_cle h9
      refine wt_T_some ?_
      exact rfl
    · skip
      have c11 := wt_ncle h9
      refine wt_T_bi (wq_ap_look n hn (t0 + 2) z2.1 σ) (fun r12 h13 => ?_)
      obtain ⟨e14, e14v⟩ := h13
      have e15 := wt_ceq e14v
      have bb16 := wt_bd (wt_lk (t0 + 2) z2.1 σ)
      have bb17 := wt_bd r12.1
      rw [e14]
      have bb18 := wt_bd x2
      refine wt_T_if (fun h19 => ?_) (fun h19 => ?_)
      · skip
        have c20 := wt_ceq h19
        refine wt_T_bi (wq_tg_isSpelled n hn t0 a1 z2.1 x2 σ) (fun r21 h22 => ?_)
        have e23 := h22
        rw [e23]
        have bb24 := wt_bd r21.1
        refine wt_T_if (fun h25 => ?_) (fun h25 => ?_)
        · skip
          have c26 := wt_ceq h25
          unfold wp_tg_find_B34
          refine hKK1 _ ⟨rfl, (wt_nn (B := wt_gf z2.2 t0 6) (by omega) (by first | (rw [l4]; omega) | (rw [l4]; done) | omega))⟩ ?_
          show ((wt_gf σ t0 6).toInt - (z2.1 + (1 : Int32)).toInt + 0).toNat < ((wt_gf z2.2 t0 6).toInt - z2.1.toInt + 0).toNat
          exact wt_mu (by first | (rw [l4]; omega) | (rw [l4]; done) | omega) (by first | (rw [l4]; omega) | (rw [l4]; done) | omega)
        · skip
          have c27 := wt_nceq h25
          refine wt_T_some ?_
          exact rfl
      · skip
        have c28 := wt_nceq h19
        unfold wp_tg_find_B34
        refine hKK1 _ ⟨rfl, (wt_nn (B := wt_gf z2.2 t0 6) (by omega) (by first | (rw [l4]; omega) | (rw [l4]; done) | omega))⟩ ?_
        show ((wt_gf σ t0 6).toInt - (z2.1 + (1 : Int32)).toInt + 0).toNat < ((wt_gf z2.2 t0 6).toInt - z2.1.toInt + 0).toNat
        exact wt_mu (by first | (rw [l4]; omega) | (rw [l4]; done) | omega) (by first | (rw [l4]; omega) | (rw [l4]; done) | omega)
  · skip
    have bb29 := wt_bd (wt_gf σ t0 6)
    exact ⟨rfl, (show 0 ≤ ((0 : Int32)).toInt by omega)⟩
  · skip
    have bb30 := wt_bd (wt_gf σ t0 6)
    show ((wt_gf σ t0 6).toInt - (0 : Int32).toInt + 0).toNat < n
    omega
set_option maxRecDepth 100000 in
set_option maxHeartbeats 4000000 in
theorem wq_pg_readAs (n : Nat) (hn : 4294967297 < n) (x1 : Int32) (x2 : Int32) (σ : wt_St) : wt_T (wp_pg_readAs n x1 x2 σ) (fun q => wt_fr (fun i k => False) (fun i => i = 79 ∨ i = 80) σ q.2) := by
  unfold wp_pg_readAs
  refine wt_T_bi (wq_ap_look n hn 43 x1 σ) (fun r1 h2 => ?_)
  obtain ⟨e3, e3v⟩ := h2
  have e4 := wt_ceq e3v
  have bb5 := wt_bd (wt_lk 43 x1 σ)
  have bb6 := wt_bd r1.1
  rw [e3]
  refine wt_T_bi (wq_ap_fillRow n hn 79 (0 : Int32) σ) (fun r7 h8 => ?_)
  have f9 := h8
  have k15 : (0 : Int32).toInt = 0 := by decide
  refine wt_T_it (fun s : Int32 × wt_St => wt_fr (fun i k => False) (fun i => i = 79) r7 s.2 ∧ 0 ≤ (s.1).toInt) (fun s : Int32 × wt_St => (x2.toInt - s.1.toInt + 0).toNat) (fun KK10 z11 I12 hKK10 => ?_) _ _ ?_ ?_
  · skip
    obtain ⟨l13, l14⟩ := I12
    unfold wp_pg_readAs_B23
    have bb16 := wt_bd x2
    have bb17 := wt_bd z11.1
    refine wt_T_if (fun h18 => ?_) (fun h18 => ?_)
    · skip
      have c19 := wt_cle h18
      refine wt_T_bi (wq_tx_wordAt n hn r1.1 x2 z11.2) (fun r20 h21 => ?_)
      have e22 := h21
      rw [e22]
      refine wt_T_bi (wq_ap_look n hn 22 r20.1 z11.2) (fun r23 h24 => ?_)
      obtain ⟨e25, e25v⟩ := h24
      have e26 := wt_ceq e25v
      have bb27 := wt_bd (wt_lk 22 r20.1 z11.2)
      have bb28 := wt_bd r23.1
      rw [e25]
      refine wt_T_it (fun s : Int32 × wt_St => wt_fr (fun i k => False) (fun i => i = 80 ∨ i = 79) z11.2 s.2 ∧ 0 ≤ (s.1).toInt) (fun s : Int32 × wt_St => (r23.1.toInt - s.1.toInt + 0).toNat) (fun KK29 z30 I31 hKK29 => ?_) _ _ ?_ ?_
      · skip
        obtain ⟨l32, l33⟩ := I31
        unfold wp_pg_readAs_B84
        have bb34 := wt_bd z30.1
        refine wt_T_if (fun h35 => ?_) (fun h35 => ?_)
        · skip
          have c36 := wt_cle h35
          refine wt_T_bi (wq_tg_find n hn 20 80 r23.1 z30.2) (fun r37 h38 => ?_)
          have e39 := h38
          rw [e39]
          refine wt_T_some ?_
          exact (wt_fr.tr (wt_fr.tr (wt_fr.tr wt_fr.rf f9 (fun i k h => h.elim) (fun i h => by (try dsimp only at h); exact Or.inl (by first | exact h | omega))) l13 (fun i k h => h.elim) (fun i h => by (try dsimp only at h); exact Or.inl (by first | exact h | omega))) l32 (fun i k h => h.elim) (fun i h => by (try dsimp only at h); rcases h with h | h; exact Or.inr (by first | exact h | omega); exact Or.inl (by first | exact h | omega)))
        · skip
          have c40 := wt_ncle h35
          refine wt_T_bi (wq_tg_letterAt n hn 20 r20.1 z30.1 z30.2) (fun r41 h42 => ?_)
          have e43 := h42
          rw [e43]
          refine wt_T_bi (wq_ap_look n hn 79 r41.1 z30.2) (fun r44 h45 => ?_)
          obtain ⟨e46, e46v⟩ := h45
          have e47 := wt_ceq e46v
          have bb48 := wt_bd (wt_lk 79 r41.1 z30.2)
          have bb49 := wt_bd r44.1
          rw [e46]
          refine wt_T_bi (wq_pg_readLetter n hn x1 r41.1 r44.1 z30.2) (fun r50 h51 => ?_)
          have e52 := h51
          rw [e52]
          refine wt_T_bi (wq_ap_put n hn 80 z30.1 r50.1 z30.2) (fun r53 h54 => ?_)
          have f55 := h54
          refine wt_T_bi (wq_ap_put n hn 79 r41.1 (r44.1 + (1 : Int32)) r53) (fun r56 h57 => ?_)
          have f58 := h57
          refine hKK29 _ ⟨(wt_fr.tr (wt_fr.tr (wt_fr.tr wt_fr.rf l32 (fun i k h => h.elim) (fun i h => by (try dsimp only at h); rcases h with h | h; exact Or.inl (by first | exact h | omega); exact Or.inr (by first | exact h | omega))) f55 (fun i k h => h.elim) (fun i h => by (try dsimp only at h); exact Or.inl (by first | exact h | omega))) f58 (fun i k h => h.elim) (fun i h => by (try dsimp only at h); exact Or.inr (by first | exact h | omega))), (wt_nn (B := r23.1) (by omega) (by omega))⟩ ?_
          show (r23.1.toInt - (z30.1 + (1 : Int32)).toInt + 0).toNat < (r23.1.toInt - z30.1.toInt + 0).toNat
          exact wt_mu (by omega) (by omega)
      · skip
        exact ⟨wt_fr.rf, (show 0 ≤ ((0 : Int32)).toInt by omega)⟩
      · skip
        show (r23.1.toInt - (0 : Int32).toInt + 0).toNat < n
        omega
    · skip
      have c59 := wt_ncle h18
      refine wt_T_bi (wq_tx_wordAt n hn r1.1 z11.1 z11.2) (fun r60 h61 => ?_)
      have e62 := h61
      rw [e62]
      refine wt_T_bi (wq_tg_countInto n hn 20 79 r60.1 z11.2) (fun r63 h64 => ?_)
      have f65 := h64
      refine hKK10 _ ⟨(wt_fr.tr (wt_fr.tr wt_fr.rf l13 (fun i k h => h.elim) (fun i h => by (try dsimp only at h); exact (by first | exact h | omega))) f65 (fun i k h => h.elim) (fun i h => by (try dsimp only at h); exact (by first | exact h | omega))), (wt_nn (B := x2) (by omega) (by omega))⟩ ?_
      show (x2.toInt - (z11.1 + (1 : Int32)).toInt + 0).toNat < (x2.toInt - z11.1.toInt + 0).toNat
      exact wt_mu (by omega) (by omega)
  · skip
    have bb66 := wt_bd x2
    exact ⟨wt_fr.rf, (show 0 ≤ ((0 : Int32)).toInt by omega)⟩
  · skip
    have bb67 := wt_bd x2
    show (x2.toInt - (0 : Int32).toInt + 0).toNat < n
    omega
set_option maxRecDepth 100000 in
set_option maxHeartbeats 4000000 in
theorem wq_pg_misreadOn (n : Nat) (hn : 4294967297 < n) (x1 : Int32) (σ : wt_St) : wt_T (wp_pg_misreadOn n x1 σ) (fun q => wt_fr (fun i k => False) (fun i => i = 79 ∨ i = 80) σ q.2) := by
  unfold wp_pg_misreadOn
  refine wt_T_bi (wq_ap_look n hn 43 x1 σ) (fun r1 h2 => ?_)
  obtain ⟨e3, e3v⟩ := h2
  have e4 := wt_ceq e3v
  have bb5 := wt_bd (wt_lk 43 x1 σ)
  have bb6 := wt_bd r1.1
  rw [e3]
  have k12 : (0 : Int32).toInt = 0 := by decide
  refine wt_T_it (fun s : Int32 × Int32 × wt_St => wt_fr (fun i k => False) (fun i => i = 79 ∨ i = 80) σ s.2.2 ∧ 0 ≤ (s.2.1).toInt) (fun s : Int32 × Int32 × wt_St => ((wt_lk 36 r1.1 s.2.2).toInt - s.2.1.toInt + 0).toNat) (fun KK7 z8 I9 hKK7 => ?_) _ _ ?_ ?_
  · skip
    obtain ⟨l10, l11⟩ := I9
    unfold wp_pg_misreadOn_B17
    have bb13 := wt_bd (wt_lk 36 r1.1 z8.2.2)
    have tt14 : (wt_lk 36 r1.1 z8.2.2).toInt = (wt_lk 36 r1.1 σ).toInt := congrArg Int32.toInt (wt_lk_fr (l10.2 36 (by (try dsimp only); omega)))
    have bb15 := wt_bd (wt_lk 36 r1.1 σ)
    have bb16 := wt_bd z8.2.1
    refine wt_T_bi (wq_tx_lengthOf n hn r1.1 z8.2.2) (fun r17 h18 => ?_)
    obtain ⟨e19, e19v⟩ := h18
    have e20 := wt_ceq e19v
    have bb21 := wt_bd r17.1
    rw [e19]
    refine wt_T_if (fun h22 => ?_) (fun h22 => ?_)
    · skip
      have c23 := wt_cle h22
      refine wt_T_some ?_
      exact (wt_fr.tr wt_fr.rf l10 (fun i k h => h.elim) (fun i h => by (try dsimp only at h); rcases h with h | h; exact Or.inl (by first | exact h | omega); exact Or.inr (by first | exact h | omega)))
    · skip
      have c24 := wt_ncle h22
      refine wt_T_bi (wq_pg_readAs n hn x1 z8.2.1 z8.2.2) (fun r25 h26 => ?_)
      have f27 := h26
      refine wt_T_bi (wq_tx_wordAt n hn r1.1 z8.2.1 r25.2) (fun r28 h29 => ?_)
      have e30 := h29
      rw [e30]
      have bb31 := wt_bd r25.1
      have bb32 := wt_bd r28.1
      refine wt_T_if (fun h33 => ?_) (fun h33 => ?_)
      · skip
        have c34 := wt_ceq h33
        unfold wp_pg_misreadOn_B56
        have bb35 := wt_bd (wt_lk 36 r1.1 r25.2)
        have tt36 : (wt_lk 36 r1.1 r25.2).toInt = (wt_lk 36 r1.1 z8.2.2).toInt := congrArg Int32.toInt (wt_lk_fr (f27.2 36 (by (try dsimp only); omega)))
        refine hKK7 _ ⟨(wt_fr.tr (wt_fr.tr wt_fr.rf l10 (fun i k h => h.elim) (fun i h => by (try dsimp only at h); rcases h with h | h; exact Or.inl (by first | exact h | omega); exact Or.inr (by first | exact h | omega))) f27 (fun i k h => h.elim) (fun i h => by (try dsimp only at h); rcases h with h | h; exact Or.inl (by first | exact h | omega); exact Or.inr (by first | exact h | omega))), (wt_nn (B := wt_lk 36 r1.1 z8.2.2) (by omega) (by omega))⟩ ?_
        show ((wt_lk 36 r1.1 r25.2).toInt - (z8.2.1 + (1 : Int32)).toInt + 0).toNat < ((wt_lk 36 r1.1 z8.2.2).toInt - z8.2.1.toInt + 0).toNat
        exact wt_mu (by omega) (by omega)
      · skip
        have c37 := wt_nceq h33
        unfold wp_pg_misreadOn_B56
        have bb38 := wt_bd (wt_lk 36 r1.1 r25.2)
        have tt39 : (wt_lk 36 r1.1 r25.2).toInt = (wt_lk 36 r1.1 z8.2.2).toInt := congrArg Int32.toInt (wt_lk_fr (f27.2 36 (by (try dsimp only); omega)))
        refine hKK7 _ ⟨(wt_fr.tr (wt_fr.tr wt_fr.rf l10 (fun i k h => h.elim) (fun i h => by (try dsimp only at h); rcases h with h | h; exact Or.inl (by first | exact h | omega); exact Or.inr (by first | exact h | omega))) f27 (fun i k h => h.elim) (fun i h => by (try dsimp only at h); rcases h with h | h; exact Or.inl (by first | exact h | omega); exact Or.inr (by first | exact h | omega))), (wt_nn (B := wt_lk 36 r1.1 z8.2.2) (by omega) (by omega))⟩ ?_
        show ((wt_lk 36 r1.1 r25.2).toInt - (z8.2.1 + (1 : Int32)).toInt + 0).toNat < ((wt_lk 36 r1.1 z8.2.2).toInt - z8.2.1.toInt + 0).toNat
        exact wt_mu (by omega) (by omega)
  · skip
    have bb40 := wt_bd (wt_lk 36 r1.1 σ)
    exact ⟨wt_fr.rf, (show 0 ≤ ((0 : Int32)).toInt by omega)⟩
  · skip
    have bb41 := wt_bd (wt_lk 36 r1.1 σ)
    show ((wt_lk 36 r1.1 σ).toInt - (0 : Int32).toInt + 0).toNat < n
    omega
set_option maxRecDepth 100000 in
set_option maxHeartbeats 4000000 in
theorem wq_pg_press (n : Nat) (hn : 4294967297 < n) (x1 : Int32) (x2 : Int32) (σ : wt_St) : wt_T (wp_pg_press n x1 x2 σ) (fun q => wt_fr (fun i k => False) (fun i => i = 40) σ q.2) := by
  unfold wp_pg_press
  refine wt_T_bi (wq_pg_leastLeftOn n hn x1 σ) (fun r1 h2 => ?_)
  have e3 := h2
  rw [e3]
  have bb4 := wt_bd x2
  have bb5 := wt_bd r1.1
  refine wt_T_if (fun h6 => ?_) (fun h6 => ?_)
  · skip
    have c7 := wt_cle h6
    have k13 : (0 : Int32).toInt = 0 := by decide
    refine wt_T_it (fun s : Int32 × Int32 × wt_St => wt_fr (fun i k => False) (fun i => i = 40) σ s.2.2 ∧ 0 ≤ (s.2.1).toInt) (fun s : Int32 × Int32 × wt_St => ((312 : Int32).toInt - s.2.1.toInt + 0).toNat) (fun KK8 z9 I10 hKK8 => ?_) _ _ ?_ ?_
    · skip
      obtain ⟨l11, l12⟩ := I10
      unfold wp_pg_press_B16
      have k14 : (312 : Int32).toInt = 312 := by decide
      have bb15 := wt_bd z9.2.1
      refine wt_T_if (fun h16 => ?_) (fun h16 => ?_)
      · skip
        have c17 := wt_cle h16
        refine wt_T_some ?_
        exact (wt_fr.tr wt_fr.rf l11 (fun i k h => h.elim) (fun i h => by (try dsimp only at h); exact (by first | exact h | omega)))
      · skip
        have c18 := wt_ncle h16
        refine wt_T_bi (wq_ap_look n hn 41 z9.2.1 z9.2.2) (fun r19 h20 => ?_)
        obtain ⟨e21, e21v⟩ := h20
        have e22 := wt_ceq e21v
        have bb23 := wt_bd (wt_lk 41 z9.2.1 z9.2.2)
        have bb24 := wt_bd r19.1
        rw [e21]
        have bb25 := wt_bd x1
        refine wt_T_if (fun h26 => ?_) (fun h26 => ?_)
        · skip
          have c27 := wt_ceq h26
          refine wt_T_bi (wq_ap_look n hn 40 z9.2.1 z9.2.2) (fun r28 h29 => ?_)
          obtain ⟨e30, e30v⟩ := h29
          have e31 := wt_ceq e30v
          have bb32 := wt_bd (wt_lk 40 z9.2.1 z9.2.2)
          have bb33 := wt_bd r28.1
          rw [e30]
          refine wt_T_bi (wq_ap_put n hn 40 z9.2.1 (r28.1 - x2) z9.2.2) (fun r34 h35 => ?_)
          have f36 := h35
          obtain ⟨j37, j37a, j37b⟩ := wt_subI r28.1 x2
          refine wt_T_if (fun h38 => ?_) (fun h38 => ?_)
          · skip
            have c39 := wt_ceq h38
            unfold wp_pg_press_B81
            unfold wp_pg_press_B83
            refine hKK8 _ ⟨(wt_fr.tr (wt_fr.tr wt_fr.rf l11 (fun i k h => h.elim) (fun i h => by (try dsimp only at h); exact (by first | exact h | omega))) f36 (fun i k h => h.elim) (fun i h => by (try dsimp only at h); exact (by first | exact h | omega))), (wt_nn (B := (312 : Int32)) (by omega) (by omega))⟩ ?_
            show ((312 : Int32).toInt - (z9.2.1 + (1 : Int32)).toInt + 0).toNat < ((312 : Int32).toInt - z9.2.1.toInt + 0).toNat
            exact wt_mu (by omega) (by omega)
          · skip
            have c40 := wt_nceq h38
            unfold wp_pg_press_B81
            unfold wp_pg_press_B83
            refine hKK8 _ ⟨(wt_fr.tr (wt_fr.tr wt_fr.rf l11 (fun i k h => h.elim) (fun i h => by (try dsimp only at h); exact (by first | exact h | omega))) f36 (fun i k h => h.elim) (fun i h => by (try dsimp only at h); exact (by first | exact h | omega))), (wt_nn (B := (312 : Int32)) (by omega) (by omega))⟩ ?_
            show ((312 : Int32).toInt - (z9.2.1 + (1 : Int32)).toInt + 0).toNat < ((312 : Int32).toInt - z9.2.1.toInt + 0).toNat
            exact wt_mu (by omega) (by omega)
        · skip
          have c41 := wt_nceq h26
          unfold wp_pg_press_B83
          refine hKK8 _ ⟨(wt_fr.tr wt_fr.rf l11 (fun i k h => h.elim) (fun i h => by (try dsimp only at h); exact (by first | exact h | omega))), (wt_nn (B := (312 : Int32)) (by omega) (by omega))⟩ ?_
          show ((312 : Int32).toInt - (z9.2.1 + (1 : Int32)).toInt + 0).toNat < ((312 : Int32).toInt - z9.2.1.toInt + 0).toNat
          exact wt_mu (by omega) (by omega)
    · skip
      have k42 : (312 : Int32).toInt = 312 := by decide
      exact ⟨wt_fr.rf, (show 0 ≤ ((0 : Int32)).toInt by omega)⟩
    · skip
      have k43 : (312 : Int32).toInt = 312 := by decide
      show ((312 : Int32).toInt - (0 : Int32).toInt + 0).toNat < n
      omega
  · skip
    have c44 := wt_ncle h6
    refine wt_T_some ?_
    exact wt_fr.rf
set_option maxRecDepth 100000 in
set_option maxHeartbeats 4000000 in
theorem wq_ap_restore (n : Nat) (hn : 4294967297 < n) (σ : wt_St) : wt_T (wp_ap_restore n σ) (fun q => wt_fr (fun i k => (i = 39 ∧ k = 8) ∨ (i = 39 ∧ k = 9) ∨ (i = 0 ∧ k = 14)) (fun i => i = 40 ∨ i = 41 ∨ i = 42 ∨ i = 43 ∨ i = 44 ∨ i = 45 ∨ i = 46 ∨ i = 47) σ q.2) := by
  unfold wp_ap_restore
  have bb1 := wt_bd (wt_gf σ 0 14)
  have k2 : (1 : Int32).toInt = 1 := by decide
  obtain ⟨j3, j3a, j3b⟩ := wt_subI (wt_gf σ 0 14) (1 : Int32)
  have k4 : (0 : Int32).toInt = 0 := by decide
  refine wt_T_if (fun h5 => ?_) (fun h5 => ?_)
  · skip
    have c6 := wt_clt h5
    refine wt_T_some ?_
    exact wt_fr.rf
  · skip
    have c7 := wt_ncl h5
    have k8 : (3 : Int32).toInt = 3 := by decide
    refine wt_T_if (fun h9 => ?_) (fun h9 => ?_)
    · skip
      have c10 := wt_clt h9
      refine wt_T_gd (wt_ix (by omega) (by omega)) ?_
      have bb11 := wt_tn ((wt_gf σ 0 14) - (1 : Int32))
      refine wt_T_bi (wq_st_become n hn 39 (49 + (9 * (Int32.toNatClampNeg ((wt_gf σ 0 14) - (1 : Int32))))) σ) (fun r12 h13 => ?_)
      have f14 := h13
      obtain ⟨σ15, eσ15⟩ : ∃ z : wt_St, z = wt_sf r12 0 14 ((wt_gf σ 0 14) - (1 : Int32)) := ⟨_, rfl⟩
      rw [← eσ15]
      have fσ15 := wt_fr_sf eσ15
      have vσ15 := wt_ceq (wt_v_sf eσ15)
      refine wt_T_some ?_
      exact (wt_fr.tr (wt_fr.tr wt_fr.rf f14 (fun i k h => by (try dsimp only at h); rcases h with h | h; exact Or.inl (by first | exact h | omega); exact Or.inr (Or.inl (by first | exact h | omega))) (fun i h => by (try dsimp only at h); rcases h with h | h | h | h | h | h | h | h; exact Or.inl (by first | exact h | omega); exact Or.inr (Or.inl (by first | exact h | omega)); exact Or.inr (Or.inr (Or.inl (by first | exact h | omega))); exact Or.inr (Or.inr (Or.inr (Or.inl (by first | exact h | omega)))); exact Or.inr (Or.inr (Or.inr (Or.inr (Or.inl (by first | exact h | omega))))); exact Or.inr (Or.inr (Or.inr (Or.inr (Or.inr (Or.inl (by first | exact h | omega)))))); exact Or.inr (Or.inr (Or.inr (Or.inr (Or.inr (Or.inr (Or.inl (by first | exact h | omega))))))); exact Or.inr (Or.inr (Or.inr (Or.inr (Or.inr (Or.inr (Or.inr (by first | exact h | omega))))))))) fσ15 (fun i k h => by (try dsimp only at h); exact Or.inr (Or.inr (by first | exact h | omega))) (fun i h => h.elim))
    · skip
      have c16 := wt_ncl h9
      refine wt_T_some ?_
      exact wt_fr.rf
set_option maxRecDepth 100000 in
set_option maxHeartbeats 4000000 in
theorem wq_pg_firstFree (n : Nat) (hn : 4294967297 < n) (σ : wt_St) : wt_T (wp_pg_firstFree n σ) (fun q => q.2 = σ) := by
  unfold wp_pg_firstFree
  have k6 : (0 : Int32).toInt = 0 := by decide
  refine wt_T_it (fun s : Int32 × wt_St => s.2 = σ ∧ 0 ≤ (s.1).toInt) (fun s : Int32 × wt_St => ((4 : Int32).toInt - s.1.toInt + 0).toNat) (fun KK1 z2 I3 hKK1 => ?_) _ _ ?_ ?_
  · skip
    obtain ⟨l4, l5⟩ := I3
    unfold wp_pg_firstFree_B2
    rw [l4]
    have k7 : (4 : Int32).toInt = 4 := by decide
    have bb8 := wt_bd z2.1
    refine wt_T_if (fun h9 => ?_) (fun h9 => ?_)
    · skip
      have c10 := wt_cle h9
      refine wt_T_some ?_
      exact rfl
    · skip
      have c11 := wt_ncle h9
      refine wt_T_bi (wq_pg_stands n hn z2.1 σ) (fun r12 h13 => ?_)
      have e14 := h13
      rw [e14]
      have bb15 := wt_bd r12.1
      refine wt_T_if (fun h16 => ?_) (fun h16 => ?_)
      · skip
        have c17 := wt_ceq h16
        refine wt_T_some ?_
        exact rfl
      · skip
        have c18 := wt_nceq h16
        refine hKK1 _ ⟨rfl, (wt_nn (B := (4 : Int32)) (by omega) (by first | (rw [l4]; omega) | (rw [l4]; done) | omega))⟩ ?_
        show ((4 : Int32).toInt - (z2.1 + (1 : Int32)).toInt + 0).toNat < ((4 : Int32).toInt - z2.1.toInt + 0).toNat
        exact wt_mu (by first | (rw [l4]; omega) | (rw [l4]; done) | omega) (by first | (rw [l4]; omega) | (rw [l4]; done) | omega)
  · skip
    have k19 : (4 : Int32).toInt = 4 := by decide
    exact ⟨rfl, (show 0 ≤ ((0 : Int32)).toInt by omega)⟩
  · skip
    have k20 : (4 : Int32).toInt = 4 := by decide
    show ((4 : Int32).toInt - (0 : Int32).toInt + 0).toNat < n
    omega
set_option maxRecDepth 100000 in
set_option maxHeartbeats 4000000 in
theorem wq_pg_stand (n : Nat) (hn : 4294967297 < n) (x1 : Int32) (x2 : Int32) (σ : wt_St) : wt_T (wp_pg_stand n x1 x2 σ) (fun q => wt_fr (fun i k => False) (fun i => i = 78 ∨ i = 43 ∨ i = 41 ∨ i = 42) σ q.2) := by
  unfold wp_pg_stand
  refine wt_T_bi (wq_tx_spell n hn 78 x1 σ) (fun r1 h2 => ?_)
  have f3 := h2
  refine wt_T_bi (wq_sk_lacking n hn 78 40 x2 r1) (fun r4 h5 => ?_)
  have e6 := h5
  rw [e6]
  have bb7 := wt_bd r4.1
  refine wt_T_if (fun h8 => ?_) (fun h8 => ?_)
  · skip
    have c9 := wt_ceq h8
    rw [wt_lm1] at c9
    refine wt_T_bi (wq_pg_firstFree n hn r1) (fun r10 h11 => ?_)
    have e12 := h11
    rw [e12]
    have bb13 := wt_bd r10.1
    refine wt_T_if (fun h14 => ?_) (fun h14 => ?_)
    · skip
      have c15 := wt_ceq h14
      rw [wt_lm1] at c15
      refine wt_T_some ?_
      exact (wt_fr.tr wt_fr.rf f3 (fun i k h => h.elim) (fun i h => by (try dsimp only at h); exact Or.inl (by first | exact h | omega)))
    · skip
      have c16 := wt_nceq h14
      rw [wt_lm1] at c16
      have k22 : (0 : Int32).toInt = 0 := by decide
      refine wt_T_it (fun s : Int32 × wt_St => wt_fr (fun i k => False) (fun i => i = 41 ∨ i = 42) r1 s.2 ∧ 0 ≤ (s.1).toInt) (fun s : Int32 × wt_St => ((26 : Int32).toInt - s.1.toInt + 0).toNat) (fun KK17 z18 I19 hKK17 => ?_) _ _ ?_ ?_
      · skip
        obtain ⟨l20, l21⟩ := I19
        unfold wp_pg_stand_B53
        have k23 : (26 : Int32).toInt = 26 := by decide
        have bb24 := wt_bd z18.1
        refine wt_T_if (fun h25 => ?_) (fun h25 => ?_)
        · skip
          have c26 := wt_cle h25
          refine wt_T_bi (wq_ap_put n hn 43 r10.1 x1 z18.2) (fun r27 h28 => ?_)
          have f29 := h28
          refine wt_T_some ?_
          exact (wt_fr.tr (wt_fr.tr (wt_fr.tr wt_fr.rf f3 (fun i k h => h.elim) (fun i h => by (try dsimp only at h); exact Or.inl (by first | exact h | omega))) l20 (fun i k h => h.elim) (fun i h => by (try dsimp only at h); rcases h with h | h; exact Or.inr (Or.inr (Or.inl (by first | exact h | omega))); exact Or.inr (Or.inr (Or.inr (by first | exact h | omega))))) f29 (fun i k h => h.elim) (fun i h => by (try dsimp only at h); exact Or.inr (Or.inl (by first | exact h | omega))))
        · skip
          have c30 := wt_ncle h25
          refine wt_T_it (fun s : Int32 × wt_St => wt_fr (fun i k => False) (fun i => i = 41 ∨ i = 42) z18.2 s.2 ∧ 0 ≤ (s.1).toInt) (fun s : Int32 × wt_St => ((wt_ga s.2 78 (Int32.toNatClampNeg z18.1)).toInt - s.1.toInt + 0).toNat) (fun KK31 z32 I33 hKK31 => ?_) _ _ ?_ ?_
          · skip
            obtain ⟨l34, l35⟩ := I33
            unfold wp_pg_stand_B66
            have bb36 := wt_tn z18.1
            have bb37 := wt_bd (wt_ga z32.2 78 (Int32.toNatClampNeg z18.1))
            have tt38 : (wt_ga z32.2 78 (Int32.toNatClampNeg z18.1)).toInt = (wt_ga z18.2 78 (Int32.toNatClampNeg z18.1)).toInt := congrArg Int32.toInt (l34.2 78 (by (try dsimp only); omega) (Int32.toNatClampNeg z18.1))
            have bb39 := wt_bd (wt_ga z18.2 78 (Int32.toNatClampNeg z18.1))
            have tt40 : (wt_ga z18.2 78 (Int32.toNatClampNeg z18.1)).toInt = (wt_ga r1 78 (Int32.toNatClampNeg z18.1)).toInt := congrArg Int32.toInt (l20.2 78 (by (try dsimp only); omega) (Int32.toNatClampNeg z18.1))
            have bb41 := wt_bd (wt_ga r1 78 (Int32.toNatClampNeg z18.1))
            have bb42 := wt_bd z32.1
            refine wt_T_gd (wt_ix (by omega) (by omega)) ?_
            refine wt_T_if (fun h43 => ?_) (fun h43 => ?_)
            · skip
              have c44 := wt_cle h43
              refine hKK17 _ ⟨(wt_fr.tr (wt_fr.tr wt_fr.rf l20 (fun i k h => h.elim) (fun i h => by (try dsimp only at h); rcases h with h | h; exact Or.inl (by first | exact h | omega); exact Or.inr (by first | exact h | omega))) l34 (fun i k h => h.elim) (fun i h => by (try dsimp only at h); rcases h with h | h; exact Or.inl (by first | exact h | omega); exact Or.inr (by first | exact h | omega))), (wt_nn (B := (26 : Int32)) (by omega) (by omega))⟩ ?_
              show ((26 : Int32).toInt - (z18.1 + (1 : Int32)).toInt + 0).toNat < ((26 : Int32).toInt - z18.1.toInt + 0).toNat
              exact wt_mu (by omega) (by omega)
            · skip
              have c45 := wt_ncle h43
              refine wt_T_bi (wq_sk_choose n hn 40 z18.1 x2 (0 : Int32) z32.2) (fun r46 h47 => ?_)
              have e48 := h47
              rw [e48]
              refine wt_T_bi (wq_ap_put n hn 41 r46.1 r10.1 z32.2) (fun r49 h50 => ?_)
              have f51 := h50
              refine wt_T_bi (wq_ap_put n hn 42 r46.1 z32.1 r49) (fun r52 h53 => ?_)
              have f54 := h53
              have bb55 := wt_bd (wt_ga r52 78 (Int32.toNatClampNeg z18.1))
              have tt56 : (wt_ga r52 78 (Int32.toNatClampNeg z18.1)).toInt = (wt_ga r49 78 (Int32.toNatClampNeg z18.1)).toInt := congrArg Int32.toInt (f54.2 78 (by (try dsimp only); omega) (Int32.toNatClampNeg z18.1))
              have bb57 := wt_bd (wt_ga r49 78 (Int32.toNatClampNeg z18.1))
              have tt58 : (wt_ga r49 78 (Int32.toNatClampNeg z18.1)).toInt = (wt_ga z32.2 78 (Int32.toNatClampNeg z18.1)).toInt := congrArg Int32.toInt (f51.2 78 (by (try dsimp only); omega) (Int32.toNatClampNeg z18.1))
              refine hKK31 _ ⟨(wt_fr.tr (wt_fr.tr (wt_fr.tr wt_fr.rf l34 (fun i k h => h.elim) (fun i h => by (try dsimp only at h); rcases h with h | h; exact Or.inl (by first | exact h | omega); exact Or.inr (by first | exact h | omega))) f51 (fun i k h => h.elim) (fun i h => by (try dsimp only at h); exact Or.inl (by first | exact h | omega))) f54 (fun i k h => h.elim) (fun i h => by (try dsimp only at h); exact Or.inr (by first | exact h | omega))), (wt_nn (B := wt_ga z32.2 78 (Int32.toNatClampNeg z18.1)) (by omega) (by omega))⟩ ?_
              show ((wt_ga r52 78 (Int32.toNatClampNeg z18.1)).toInt - (z32.1 + (1 : Int32)).toInt + 0).toNat < ((wt_ga z32.2 78 (Int32.toNatClampNeg z18.1)).toInt - z32.1.toInt + 0).toNat
              exact wt_mu (by omega) (by omega)
          · skip
            have bb59 := wt_tn z18.1
            have bb60 := wt_bd (wt_ga z18.2 78 (Int32.toNatClampNeg z18.1))
            have tt61 : (wt_ga z18.2 78 (Int32.toNatClampNeg z18.1)).toInt = (wt_ga r1 78 (Int32.toNatClampNeg z18.1)).toInt := congrArg Int32.toInt (l20.2 78 (by (try dsimp only); omega) (Int32.toNatClampNeg z18.1))
            have bb62 := wt_bd (wt_ga r1 78 (Int32.toNatClampNeg z18.1))
            exact ⟨wt_fr.rf, (show 0 ≤ ((0 : Int32)).toInt by omega)⟩
          · skip
            have bb63 := wt_tn z18.1
            have bb64 := wt_bd (wt_ga z18.2 78 (Int32.toNatClampNeg z18.1))
            have tt65 : (wt_ga z18.2 78 (Int32.toNatClampNeg z18.1)).toInt = (wt_ga r1 78 (Int32.toNatClampNeg z18.1)).toInt := congrArg Int32.toInt (l20.2 78 (by (try dsimp only); omega) (Int32.toNatClampNeg z18.1))
            have bb66 := wt_bd (wt_ga r1 78 (Int32.toNatClampNeg z18.1))
            show ((wt_ga z18.2 78 (Int32.toNatClampNeg z18.1)).toInt - (0 : Int32).toInt + 0).toNat < n
            omega
      · skip
        have k67 : (26 : Int32).toInt = 26 := by decide
        exact ⟨wt_fr.rf, (show 0 ≤ ((0 : Int32)).toInt by omega)⟩
      · skip
        have k68 : (26 : Int32).toInt = 26 := by decide
        show ((26 : Int32).toInt - (0 : Int32).toInt + 0).toNat < n
        omega
  · skip
    have c69 := wt_nceq h8
    rw [wt_lm1] at c69
    refine wt_T_some ?_
    exact (wt_fr.tr wt_fr.rf f3 (fun i k h => h.elim) (fun i h => by (try dsimp only at h); exact Or.inl (by first | exact h | omega)))
set_option maxRecDepth 100000 in
set_option maxHeartbeats 4000000 in
theorem wq_tx_close (n : Nat) (hn : 4294967297 < n) (t1 : Nat) (x2 : Int32) (σ : wt_St) : wt_T (wp_tx_close n t1 x2 σ) (fun q => wt_fr (fun i k => (i = 34 ∧ k = 4)) (fun i => i = 38 ∨ i = 36 ∨ i = 37) σ q.2) := by
  unfold wp_tx_close
  refine wt_T_bi (wq_ap_fillRow n hn 38 (0 : Int32) σ) (fun r1 h2 => ?_)
  have f3 := h2
  have k9 : (0 : Int32).toInt = 0 := by decide
  refine wt_T_it (fun s : Int32 × wt_St => wt_fr (fun i k => False) (fun i => i = 38) r1 s.2 ∧ 0 ≤ (s.1).toInt) (fun s : Int32 × wt_St => (x2.toInt - s.1.toInt + 0).toNat) (fun KK4 z5 I6 hKK4 => ?_) _ _ ?_ ?_
  · skip
    obtain ⟨l7, l8⟩ := I6
    unfold wp_tx_close_B10
    have bb10 := wt_bd x2
    have bb11 := wt_bd z5.1
    refine wt_T_if (fun h12 => ?_) (fun h12 => ?_)
    · skip
      have c13 := wt_cle h12
      refine wt_T_it (fun s : Int32 × wt_St => wt_fr (fun i k => False) (fun i => i = 37) z5.2 s.2 ∧ 0 ≤ (s.1).toInt) (fun s : Int32 × wt_St => ((26 : Int32).toInt - s.1.toInt + 0).toNat) (fun KK14 z15 I16 hKK14 => ?_) _ _ ?_ ?_
      · skip
        obtain ⟨l17, l18⟩ := I16
        unfold wp_tx_close_B47
        have k19 : (26 : Int32).toInt = 26 := by decide
        have bb20 := wt_bd z15.1
        refine wt_T_if (fun h21 => ?_) (fun h21 => ?_)
        · skip
          have c22 := wt_cle h21
          refine wt_T_bi (wq_ap_put n hn 36 (wt_gf z15.2 34 4) x2 z15.2) (fun r23 h24 => ?_)
          have f25 := h24
          obtain ⟨σ26, eσ26⟩ : ∃ z : wt_St, z = wt_sf r23 34 4 ((wt_gf r23 34 4) + (1 : Int32)) := ⟨_, rfl⟩
          rw [← eσ26]
          have fσ26 := wt_fr_sf eσ26
          have vσ26 := wt_ceq (wt_v_sf eσ26)
          refine wt_T_some ?_
          exact (wt_fr.tr (wt_fr.tr (wt_fr.tr (wt_fr.tr (wt_fr.tr wt_fr.rf f3 (fun i k h => h.elim) (fun i h => by (try dsimp only at h); exact Or.inl (by first | exact h | omega))) l7 (fun i k h => h.elim) (fun i h => by (try dsimp only at h); exact Or.inl (by first | exact h | omega))) l17 (fun i k h => h.elim) (fun i h => by (try dsimp only at h); exact Or.inr (Or.inr (by first | exact h | omega)))) f25 (fun i k h => h.elim) (fun i h => by (try dsimp only at h); exact Or.inr (Or.inl (by first | exact h | omega)))) fσ26 (fun i k h => by (try dsimp only at h); exact (by first | exact h | omega)) (fun i h => h.elim))
        · skip
          have c27 := wt_ncle h21
          refine wt_T_gd (wt_ix (by omega) (by omega)) ?_
          refine wt_T_bi (wq_ap_put n hn 37 (((wt_gf z15.2 34 4) * (26 : Int32)) + z15.1) (wt_ga z15.2 38 (Int32.toNatClampNeg z15.1)) z15.2) (fun r28 h29 => ?_)
          have f30 := h29
          refine hKK14 _ ⟨(wt_fr.tr (wt_fr.tr wt_fr.rf l17 (fun i k h => h.elim) (fun i h => by (try dsimp only at h); exact (by first | exact h | omega))) f30 (fun i k h => h.elim) (fun i h => by (try dsimp only at h); exact (by first | exact h | omega))), (wt_nn (B := (26 : Int32)) (by omega) (by omega))⟩ ?_
          show ((26 : Int32).toInt - (z15.1 + (1 : Int32)).toInt + 0).toNat < ((26 : Int32).toInt - z15.1.toInt + 0).toNat
          exact wt_mu (by omega) (by omega)
      · skip
        have k31 : (26 : Int32).toInt = 26 := by decide
        exact ⟨wt_fr.rf, (show 0 ≤ ((0 : Int32)).toInt by omega)⟩
      · skip
        have k32 : (26 : Int32).toInt = 26 := by decide
        show ((26 : Int32).toInt - (0 : Int32).toInt + 0).toNat < n
        omega
    · skip
      have c33 := wt_ncle h12
      refine wt_T_bi (wq_ap_look n hn 35 (((wt_gf z5.2 34 4) * (12 : Int32)) + z5.1) z5.2) (fun r34 h35 => ?_)
      obtain ⟨e36, e36v⟩ := h35
      have e37 := wt_ceq e36v
      have bb38 := wt_bd (wt_lk 35 (((wt_gf z5.2 34 4) * (12 : Int32)) + z5.1) z5.2)
      have bb39 := wt_bd r34.1
      rw [e36]
      refine wt_T_bi (wq_tg_countInto n hn t1 38 r34.1 z5.2) (fun r40 h41 => ?_)
      have f42 := h41
      refine hKK4 _ ⟨(wt_fr.tr (wt_fr.tr wt_fr.rf l7 (fun i k h => h.elim) (fun i h => by (try dsimp only at h); exact (by first | exact h | omega))) f42 (fun i k h => h.elim) (fun i h => by (try dsimp only at h); exact (by first | exact h | omega))), (wt_nn (B := x2) (by omega) (by omega))⟩ ?_
      show (x2.toInt - (z5.1 + (1 : Int32)).toInt + 0).toNat < (x2.toInt - z5.1.toInt + 0).toNat
      exact wt_mu (by omega) (by omega)
  · skip
    have bb43 := wt_bd x2
    exact ⟨wt_fr.rf, (show 0 ≤ ((0 : Int32)).toInt by omega)⟩
  · skip
    have bb44 := wt_bd x2
    show (x2.toInt - (0 : Int32).toInt + 0).toNat < n
    omega
set_option maxRecDepth 100000 in
set_option maxHeartbeats 4000000 in
theorem wq_tx_fill (n : Nat) (hn : 4294967297 < n) (t2 : Nat) (σ : wt_St) : wt_T (wp_tx_fill n t2 σ) (fun q => wt_fr (fun i k => (i = 1 ∧ k = 5) ∨ (i = 1 ∧ k = 4) ∨ (i = 1 ∧ k = 6) ∨ (i = 1 ∧ k = 7) ∨ (i = 34 ∧ k = 4)) (fun i => i = 3 ∨ i = 35 ∨ i = 38 ∨ i = 36 ∨ i = 37) σ q.2) := by
  unfold wp_tx_fill
  have k6 : (0 : Int32).toInt = 0 := by decide
  refine wt_T_it (fun s : Int32 × wt_St => wt_fr (fun i k => (i = 1 ∧ k = 5) ∨ (i = 1 ∧ k = 4) ∨ (i = 1 ∧ k = 6) ∨ (i = 1 ∧ k = 7)) (fun i => i = 3 ∨ i = 35) σ s.2 ∧ 0 ≤ (s.1).toInt) (fun s : Int32 × wt_St => ((12 : Int32).toInt - s.1.toInt + 1).toNat) (fun KK1 z2 I3 hKK1 => ?_) _ _ ?_ ?_
  · skip
    obtain ⟨l4, l5⟩ := I3
    unfold wp_tx_fill_B2
    have k7 : (12 : Int32).toInt = 12 := by decide
    have bb8 := wt_bd z2.1
    refine wt_T_if (fun h9 => ?_) (fun h9 => ?_)
    · skip
      have c10 := wt_clt h9
      refine wt_T_some ?_
      exact (wt_fr.tr wt_fr.rf l4 (fun i k h => by (try dsimp only at h); rcases h with h | h | h | h; exact Or.inl (by first | exact h | omega); exact Or.inr (Or.inl (by first | exact h | omega)); exact Or.inr (Or.inr (Or.inl (by first | exact h | omega))); exact Or.inr (Or.inr (Or.inr (Or.inl (by first | exact h | omega))))) (fun i h => by (try dsimp only at h); rcases h with h | h; exact Or.inl (by first | exact h | omega); exact Or.inr (Or.inl (by first | exact h | omega))))
    · skip
      have c11 := wt_ncl h9
      refine wt_T_bi (wq_tp_over n hn z2.2) (fun r12 h13 => ?_)
      have f14 := h13
      have bb15 := wt_bd r12.1
      refine wt_T_if (fun h16 => ?_) (fun h16 => ?_)
      · skip
        have c17 := wt_ceq h16
        refine wt_T_bi (wq_tp_takeWord n hn r12.2) (fun r18 h19 => ?_)
        have f20 := h19
        have bb21 := wt_bd r18.1
        refine wt_T_if (fun h22 => ?_) (fun h22 => ?_)
        · skip
          have c23 := wt_ceq h22
          refine wt_T_some ?_
          exact (wt_fr.tr (wt_fr.tr (wt_fr.tr wt_fr.rf l4 (fun i k h => by (try dsimp only at h); rcases h with h | h | h | h; exact Or.inl (by first | exact h | omega); exact Or.inr (Or.inl (by first | exact h | omega)); exact Or.inr (Or.inr (Or.inl (by first | exact h | omega))); exact Or.inr (Or.inr (Or.inr (Or.inl (by first | exact h | omega))))) (fun i h => by (try dsimp only at h); rcases h with h | h; exact Or.inl (by first | exact h | omega); exact Or.inr (Or.inl (by first | exact h | omega)))) f14 (fun i k h => by (try dsimp only at h); rcases h with h | h; exact Or.inl (by first | exact h | omega); exact Or.inr (Or.inl (by first | exact h | omega))) (fun i h => h.elim)) f20 (fun i k h => by (try dsimp only at h); rcases h with h | h | h | h; exact Or.inl (by first | exact h | omega); exact Or.inr (Or.inl (by first | exact h | omega)); exact Or.inr (Or.inr (Or.inl (by first | exact h | omega))); exact Or.inr (Or.inr (Or.inr (Or.inl (by first | exact h | omega))))) (fun i h => by (try dsimp only at h); exact Or.inl (by first | exact h | omega)))
        · skip
          have c24 := wt_nceq h22
          refine wt_T_bi (wq_tp_wordLength n hn r18.2) (fun r25 h26 => ?_)
          have e27 := h26
          rw [e27]
          refine wt_T_bi (wq_tg_find n hn t2 3 r25.1 r18.2) (fun r28 h29 => ?_)
          have e30 := h29
          rw [e30]
          have bb31 := wt_bd r28.1
          refine wt_T_if (fun h32 => ?_) (fun h32 => ?_)
          · skip
            have c33 := wt_ceq h32
            rw [wt_lm1] at c33
            refine wt_T_bi (wq_tp_fail n hn (2 : Int32) r18.2) (fun r34 h35 => ?_)
            have f36 := h35
            refine wt_T_some ?_
            exact (wt_fr.tr (wt_fr.tr (wt_fr.tr (wt_fr.tr wt_fr.rf l4 (fun i k h => by (try dsimp only at h); rcases h with h | h | h | h; exact Or.inl (by first | exact h | omega); exact Or.inr (Or.inl (by first | exact h | omega)); exact Or.inr (Or.inr (Or.inl (by first | exact h | omega))); exact Or.inr (Or.inr (Or.inr (Or.inl (by first | exact h | omega))))) (fun i h => by (try dsimp only at h); rcases h with h | h; exact Or.inl (by first | exact h | omega); exact Or.inr (Or.inl (by first | exact h | omega)))) f14 (fun i k h => by (try dsimp only at h); rcases h with h | h; exact Or.inl (by first | exact h | omega); exact Or.inr (Or.inl (by first | exact h | omega))) (fun i h => h.elim)) f20 (fun i k h => by (try dsimp only at h); rcases h with h | h | h | h; exact Or.inl (by first | exact h | omega); exact Or.inr (Or.inl (by first | exact h | omega)); exact Or.inr (Or.inr (Or.inl (by first | exact h | omega))); exact Or.inr (Or.inr (Or.inr (Or.inl (by first | exact h | omega))))) (fun i h => by (try dsimp only at h); exact Or.inl (by first | exact h | omega))) f36 (fun i k h => by (try dsimp only at h); rcases h with h | h; exact Or.inr (Or.inr (Or.inl (by first | exact h | omega))); exact Or.inr (Or.inr (Or.inr (Or.inl (by first | exact h | omega))))) (fun i h => h.elim))
          · skip
            have c37 := wt_nceq h32
            rw [wt_lm1] at c37
            refine wt_T_if (fun h38 => ?_) (fun h38 => ?_)
            · skip
              have c39 := wt_clt h38
              refine wt_T_bi (wq_ap_put n hn 35 (((wt_gf r18.2 34 4) * (12 : Int32)) + z2.1) r28.1 r18.2) (fun r40 h41 => ?_)
              have f42 := h41
              refine hKK1 _ ⟨(wt_fr.tr (wt_fr.tr (wt_fr.tr (wt_fr.tr wt_fr.rf l4 (fun i k h => by (try dsimp only at h); rcases h with h | h | h | h; exact Or.inl (by first | exact h | omega); exact Or.inr (Or.inl (by first | exact h | omega)); exact Or.inr (Or.inr (Or.inl (by first | exact h | omega))); exact Or.inr (Or.inr (Or.inr (by first | exact h | omega)))) (fun i h => by (try dsimp only at h); rcases h with h | h; exact Or.inl (by first | exact h | omega); exact Or.inr (by first | exact h | omega))) f14 (fun i k h => by (try dsimp only at h); rcases h with h | h; exact Or.inl (by first | exact h | omega); exact Or.inr (Or.inl (by first | exact h | omega))) (fun i h => h.elim)) f20 (fun i k h => by (try dsimp only at h); rcases h with h | h | h | h; exact Or.inl (by first | exact h | omega); exact Or.inr (Or.inl (by first | exact h | omega)); exact Or.inr (Or.inr (Or.inl (by first | exact h | omega))); exact Or.inr (Or.inr (Or.inr (by first | exact h | omega)))) (fun i h => by (try dsimp only at h); exact Or.inl (by first | exact h | omega))) f42 (fun i k h => h.elim) (fun i h => by (try dsimp only at h); exact Or.inr (by first | exact h | omega))), (wt_nn1 (B := (12 : Int32)) (by omega) (by omega) (by omega))⟩ ?_
              show ((12 : Int32).toInt - (z2.1 + (1 : Int32)).toInt + 1).toNat < ((12 : Int32).toInt - z2.1.toInt + 1).toNat
              exact wt_mu1 (by omega) (by omega) (by omega)
            · skip
              have c43 := wt_ncl h38
              refine wt_T_bi (wq_tp_fail n hn (3 : Int32) r18.2) (fun r44 h45 => ?_)
              have f46 := h45
              refine wt_T_some ?_
              exact (wt_fr.tr (wt_fr.tr (wt_fr.tr (wt_fr.tr wt_fr.rf l4 (fun i k h => by (try dsimp only at h); rcases h with h | h | h | h; exact Or.inl (by first | exact h | omega); exact Or.inr (Or.inl (by first | exact h | omega)); exact Or.inr (Or.inr (Or.inl (by first | exact h | omega))); exact Or.inr (Or.inr (Or.inr (Or.inl (by first | exact h | omega))))) (fun i h => by (try dsimp only at h); rcases h with h | h; exact Or.inl (by first | exact h | omega); exact Or.inr (Or.inl (by first | exact h | omega)))) f14 (fun i k h => by (try dsimp only at h); rcases h with h | h; exact Or.inl (by first | exact h | omega); exact Or.inr (Or.inl (by first | exact h | omega))) (fun i h => h.elim)) f20 (fun i k h => by (try dsimp only at h); rcases h with h | h | h | h; exact Or.inl (by first | exact h | omega); exact Or.inr (Or.inl (by first | exact h | omega)); exact Or.inr (Or.inr (Or.inl (by first | exact h | omega))); exact Or.inr (Or.inr (Or.inr (Or.inl (by first | exact h | omega))))) (fun i h => by (try dsimp only at h); exact Or.inl (by first | exact h | omega))) f46 (fun i k h => by (try dsimp only at h); rcases h with h | h; exact Or.inr (Or.inr (Or.inl (by first | exact h | omega))); exact Or.inr (Or.inr (Or.inr (Or.inl (by first | exact h | omega))))) (fun i h => h.elim))
      · skip
        have c47 := wt_nceq h16
        refine wt_T_if (fun h48 => ?_) (fun h48 => ?_)
        · skip
          have c49 := wt_cle h48
          refine wt_T_bi (wq_tp_fail n hn (1 : Int32) r12.2) (fun r50 h51 => ?_)
          have f52 := h51
          refine wt_T_some ?_
          exact (wt_fr.tr (wt_fr.tr (wt_fr.tr wt_fr.rf l4 (fun i k h => by (try dsimp only at h); rcases h with h | h | h | h; exact Or.inl (by first | exact h | omega); exact Or.inr (Or.inl (by first | exact h | omega)); exact Or.inr (Or.inr (Or.inl (by first | exact h | omega))); exact Or.inr (Or.inr (Or.inr (Or.inl (by first | exact h | omega))))) (fun i h => by (try dsimp only at h); rcases h with h | h; exact Or.inl (by first | exact h | omega); exact Or.inr (Or.inl (by first | exact h | omega)))) f14 (fun i k h => by (try dsimp only at h); rcases h with h | h; exact Or.inl (by first | exact h | omega); exact Or.inr (Or.inl (by first | exact h | omega))) (fun i h => h.elim)) f52 (fun i k h => by (try dsimp only at h); rcases h with h | h; exact Or.inr (Or.inr (Or.inl (by first | exact h | omega))); exact Or.inr (Or.inr (Or.inr (Or.inl (by first | exact h | omega))))) (fun i h => h.elim))
        · skip
          have c53 := wt_ncle h48
          refine wt_T_bi (wq_tx_close n hn t2 z2.1 r12.2) (fun r54 h55 => ?_)
          have f56 := h55
          refine wt_T_some ?_
          exact (wt_fr.tr (wt_fr.tr (wt_fr.tr wt_fr.rf l4 (fun i k h => by (try dsimp only at h); rcases h with h | h | h | h; exact Or.inl (by first | exact h | omega); exact Or.inr (Or.inl (by first | exact h | omega)); exact Or.inr (Or.inr (Or.inl (by first | exact h | omega))); exact Or.inr (Or.inr (Or.inr (Or.inl (by first | exact h | omega))))) (fun i h => by (try dsimp only at h); rcases h with h | h; exact Or.inl (by first | exact h | omega); exact Or.inr (Or.inl (by first | exact h | omega)))) f14 (fun i k h => by (try dsimp only at h); rcases h with h | h; exact Or.inl (by first | exact h | omega); exact Or.inr (Or.inl (by first | exact h | omega))) (fun i h => h.elim)) f56 (fun i k h => by (try dsimp only at h); exact Or.inr (Or.inr (Or.inr (Or.inr (by first | exact h | omega))))) (fun i h => by (try dsimp only at h); rcases h with h | h | h; exact Or.inr (Or.inr (Or.inl (by first | exact h | omega))); exact Or.inr (Or.inr (Or.inr (Or.inl (by first | exact h | omega)))); exact Or.inr (Or.inr (Or.inr (Or.inr (by first | exact h | omega))))))
  · skip
    have k57 : (12 : Int32).toInt = 12 := by decide
    exact ⟨wt_fr.rf, (show 0 ≤ ((0 : Int32)).toInt by omega)⟩
  · skip
    have k58 : (12 : Int32).toInt = 12 := by decide
    show ((12 : Int32).toInt - (0 : Int32).toInt + 1).toNat < n
    omega
set_option maxRecDepth 100000 in
set_option maxHeartbeats 4000000 in
theorem wq_tr_standAtOnce (n : Nat) (hn : 4294967297 < n) (x1 : Int32) (σ : wt_St) : wt_T (wp_tr_standAtOnce n x1 σ) (fun q => q.2 = σ) := by
  unfold wp_tr_standAtOnce
  have k6 : (0 : Int32).toInt = 0 := by decide
  refine wt_T_it (fun s : Int32 × wt_St => s.2 = σ ∧ 0 ≤ (s.1).toInt) (fun s : Int32 × wt_St => ((26 : Int32).toInt - s.1.toInt + 0).toNat) (fun KK1 z2 I3 hKK1 => ?_) _ _ ?_ ?_
  · skip
    obtain ⟨l4, l5⟩ := I3
    unfold wp_tr_standAtOnce_B2
    rw [l4]
    have k7 : (26 : Int32).toInt = 26 := by decide
    have bb8 := wt_bd z2.1
    refine wt_T_if (fun h9 => ?_) (fun h9 => ?_)
    · skip
      have c10 := wt_cle h9
      refine wt_T_some ?_
      exact rfl
    · skip
      have c11 := wt_ncle h9
      refine wt_T_it (fun s : Int32 × Int32 × wt_St => s.2.2 = σ ∧ 0 ≤ (s.2.1).toInt) (fun s : Int32 × Int32 × wt_St => ((wt_gf s.2.2 34 4).toInt - s.2.1.toInt + 0).toNat) (fun KK12 z13 I14 hKK12 => ?_) _ _ ?_ ?_
      · skip
        obtain ⟨l15, l16⟩ := I14
        unfold wp_tr_standAtOnce_B16
        rw [l15]
        have bb17 := wt_bd (wt_gf σ 34 4)
        have bb18 := wt_bd z13.2.1
        refine wt_T_if (fun h19 => ?_) (fun h19 => ?_)
        · skip
          have c20 := wt_cle h19
          refine wt_T_gd (wt_ix (by omega) (by omega)) ?_
          have bb21 := wt_bd z13.1
          have bb22 := wt_tn z2.1
          have bb23 := wt_bd (wt_ga σ 106 (Int32.toNatClampNeg z2.1))
          refine wt_T_if (fun h24 => ?_) (fun h24 => ?_)
          · skip
            have c25 := wt_cle h24
            refine hKK1 _ ⟨rfl, (wt_nn (B := (26 : Int32)) (by omega) (by first | (rw [l4]; omega) | (rw [l4]; done) | omega))⟩ ?_
            show ((26 : Int32).toInt - (z2.1 + (1 : Int32)).toInt + 0).toNat < ((26 : Int32).toInt - z2.1.toInt + 0).toNat
            exact wt_mu (by first | (rw [l4]; omega) | (rw [l4]; done) | omega) (by first | (rw [l4]; omega) | (rw [l4]; done) | omega)
          · skip
            have c26 := wt_ncle h24
            refine wt_T_some ?_
            exact rfl
        · skip
          have c27 := wt_ncle h19
          have bb28 := wt_bd x1
          have k29 : (31 : Int32).toInt = 31 := by decide
          have bb30 := wt_bd (z13.2.1 &&& 31)
          have bb31 := wt_bd (x1 >>> (z13.2.1 &&& 31))
          have k32 : (1 : Int32).toInt = 1 := by decide
          have bb33 := wt_bd ((x1 >>> (z13.2.1 &&& 31)) &&& (1 : Int32))
          refine wt_T_if (fun h34 => ?_) (fun h34 => ?_)
          · skip
            have c35 := wt_ceq h34
            refine wt_T_bi (wq_tx_needOf n hn z13.2.1 z2.1 σ) (fun r36 h37 => ?_)
            have e38 := h37
            rw [e38]
            unfold wp_tr_standAtOnce_B53
            refine hKK12 _ ⟨rfl, (wt_nn (B := wt_gf z13.2.2 34 4) (by omega) (by first | (rw [l15]; omega) | (rw [l15]; done) | omega))⟩ ?_
            show ((wt_gf σ 34 4).toInt - (z13.2.1 + (1 : Int32)).toInt + 0).toNat < ((wt_gf z13.2.2 34 4).toInt - z13.2.1.toInt + 0).toNat
            exact wt_mu (by first | (rw [l15]; omega) | (rw [l15]; done) | omega) (by first | (rw [l15]; omega) | (rw [l15]; done) | omega)
          · skip
            have c39 := wt_nceq h34
            unfold wp_tr_standAtOnce_B53
            refine hKK12 _ ⟨rfl, (wt_nn (B := wt_gf z13.2.2 34 4) (by omega) (by first | (rw [l15]; omega) | (rw [l15]; done) | omega))⟩ ?_
            show ((wt_gf σ 34 4).toInt - (z13.2.1 + (1 : Int32)).toInt + 0).toNat < ((wt_gf z13.2.2 34 4).toInt - z13.2.1.toInt + 0).toNat
            exact wt_mu (by first | (rw [l15]; omega) | (rw [l15]; done) | omega) (by first | (rw [l15]; omega) | (rw [l15]; done) | omega)
      · skip
        have bb40 := wt_bd (wt_gf σ 34 4)
        exact ⟨rfl, (show 0 ≤ ((0 : Int32)).toInt by omega)⟩
      · skip
        have bb41 := wt_bd (wt_gf σ 34 4)
        show ((wt_gf σ 34 4).toInt - (0 : Int32).toInt + 0).toNat < n
        omega
  · skip
    have k42 : (26 : Int32).toInt = 26 := by decide
    exact ⟨rfl, (show 0 ≤ ((0 : Int32)).toInt by omega)⟩
  · skip
    have k43 : (26 : Int32).toInt = 26 := by decide
    show ((26 : Int32).toInt - (0 : Int32).toInt + 0).toNat < n
    omega
set_option maxRecDepth 100000 in
set_option maxHeartbeats 4000000 in
theorem wq_jl_bitCount (n : Nat) (hn : 4294967297 < n) (x0 : Int32) (σ : wt_St) : wt_T (wp_jl_bitCount n x0 σ) (fun q => q.2 = σ) := by
  unfold wp_jl_bitCount
  refine wt_T_some ?_
  exact rfl
set_option maxRecDepth 100000 in
set_option maxHeartbeats 4000000 in
theorem wq_tr_mostAtOnce (n : Nat) (hn : 4294967297 < n) (x1 : Int32) (σ : wt_St) : wt_T (wp_tr_mostAtOnce n x1 σ) (fun q => wt_fr (fun i k => False) (fun i => i = 106) σ q.2) := by
  unfold wp_tr_mostAtOnce
  have k6 : (0 : Int32).toInt = 0 := by decide
  refine wt_T_it (fun s : Int32 × wt_St => wt_fr (fun i k => False) (fun i => i = 106) σ s.2 ∧ 0 ≤ (s.1).toInt) (fun s : Int32 × wt_St => ((26 : Int32).toInt - s.1.toInt + 0).toNat) (fun KK1 z2 I3 hKK1 => ?_) _ _ ?_ ?_
  · skip
    obtain ⟨l4, l5⟩ := I3
    unfold wp_tr_mostAtOnce_B2
    have k7 : (26 : Int32).toInt = 26 := by decide
    have bb8 := wt_bd z2.1
    refine wt_T_if (fun h9 => ?_) (fun h9 => ?_)
    · skip
      have c10 := wt_cle h9
      have k16 : (1 : Int32).toInt = 1 := by decide
      refine wt_T_it (fun s : Int32 × Int32 × wt_St => s.2.2 = z2.2 ∧ 0 ≤ (s.2.1).toInt) (fun s : Int32 × Int32 × wt_St => (((1 : Int32) <<< ((wt_gf s.2.2 34 4) &&& 31)).toInt - s.2.1.toInt + 0).toNat) (fun KK11 z12 I13 hKK11 => ?_) _ _ ?_ ?_
      · skip
        obtain ⟨l14, l15⟩ := I13
        unfold wp_tr_mostAtOnce_B43
        rw [l14]
        have bb17 := wt_bd (wt_gf z12.2.2 34 4)
        have k18 : (31 : Int32).toInt = 31 := by decide
        have bb19 := wt_bd ((wt_gf z12.2.2 34 4) &&& 31)
        have bb20 := wt_bd ((1 : Int32) <<< ((wt_gf z12.2.2 34 4) &&& 31))
        have bb21 := wt_bd z12.2.1
        have bb22 := wt_bd (wt_gf z2.2 34 4)
        have tt23 : (wt_gf z2.2 34 4).toInt = (wt_gf σ 34 4).toInt := congrArg Int32.toInt (l4.1 34 4 (fun z => z))
        have bb24 := wt_bd (wt_gf σ 34 4)
        have bb25 := wt_bd ((wt_gf z2.2 34 4) &&& 31)
        have bb26 := wt_bd ((1 : Int32) <<< ((wt_gf z2.2 34 4) &&& 31))
        refine wt_T_if (fun h27 => ?_) (fun h27 => ?_)
        · skip
          have c28 := wt_cle h27
          refine wt_T_some ?_
          exact (wt_fr.tr wt_fr.rf l4 (fun i k h => h.elim) (fun i h => by (try dsimp only at h); exact (by first | exact h | omega)))
        · skip
          have c29 := wt_ncle h27
          refine wt_T_bi (wq_jl_bitCount n hn z12.2.1 z2.2) (fun r30 h31 => ?_)
          have e32 := h31
          rw [e32]
          refine wt_T_bi (wq_jl_bitCount n hn z12.1 z2.2) (fun r33 h34 => ?_)
          have e35 := h34
          rw [e35]
          have bb36 := wt_bd r30.1
          have bb37 := wt_bd r33.1
          refine wt_T_if (fun h38 => ?_) (fun h38 => ?_)
          · skip
            have c39 := wt_cle h38
            unfold wp_tr_mostAtOnce_B77
            refine hKK11 _ ⟨rfl, (wt_nn (B := (1 : Int32) <<< ((wt_gf z12.2.2 34 4) &&& 31)) (by omega) (by first | (rw [l14]; omega) | (rw [l14]; done) | omega))⟩ ?_
            show (((1 : Int32) <<< ((wt_gf z2.2 34 4) &&& 31)).toInt - (z12.2.1 + (1 : Int32)).toInt + 0).toNat < (((1 : Int32) <<< ((wt_gf z12.2.2 34 4) &&& 31)).toInt - z12.2.1.toInt + 0).toNat
            exact wt_mu (by first | (rw [l14]; omega) | (rw [l14]; done) | omega) (by first | (rw [l14]; omega) | (rw [l14]; done) | omega)
          · skip
            have c40 := wt_ncle h38
            refine wt_T_bi (wq_tr_standAtOnce n hn z12.2.1 z2.2) (fun r41 h42 => ?_)
            have e43 := h42
            rw [e43]
            have bb44 := wt_bd r41.1
            refine wt_T_if (fun h45 => ?_) (fun h45 => ?_)
            · skip
              have c46 := wt_ceq h45
              unfold wp_tr_mostAtOnce_B77
              refine hKK11 _ ⟨rfl, (wt_nn (B := (1 : Int32) <<< ((wt_gf z12.2.2 34 4) &&& 31)) (by omega) (by first | (rw [l14]; omega) | (rw [l14]; done) | omega))⟩ ?_
              show (((1 : Int32) <<< ((wt_gf z2.2 34 4) &&& 31)).toInt - (z12.2.1 + (1 : Int32)).toInt + 0).toNat < (((1 : Int32) <<< ((wt_gf z12.2.2 34 4) &&& 31)).toInt - z12.2.1.toInt + 0).toNat
              exact wt_mu (by first | (rw [l14]; omega) | (rw [l14]; done) | omega) (by first | (rw [l14]; omega) | (rw [l14]; done) | omega)
            · skip
              have c47 := wt_nceq h45
              unfold wp_tr_mostAtOnce_B77
              refine hKK11 _ ⟨rfl, (wt_nn (B := (1 : Int32) <<< ((wt_gf z12.2.2 34 4) &&& 31)) (by omega) (by first | (rw [l14]; omega) | (rw [l14]; done) | omega))⟩ ?_
              show (((1 : Int32) <<< ((wt_gf z2.2 34 4) &&& 31)).toInt - (z12.2.1 + (1 : Int32)).toInt + 0).toNat < (((1 : Int32) <<< ((wt_gf z12.2.2 34 4) &&& 31)).toInt - z12.2.1.toInt + 0).toNat
              exact wt_mu (by first | (rw [l14]; omega) | (rw [l14]; done) | omega) (by first | (rw [l14]; omega) | (rw [l14]; done) | omega)
      · skip
        have bb48 := wt_bd (wt_gf z2.2 34 4)
        have tt49 : (wt_gf z2.2 34 4).toInt = (wt_gf σ 34 4).toInt := congrArg Int32.toInt (l4.1 34 4 (fun z => z))
        have bb50 := wt_bd (wt_gf σ 34 4)
        have k51 : (31 : Int32).toInt = 31 := by decide
        have bb52 := wt_bd ((wt_gf z2.2 34 4) &&& 31)
        have bb53 := wt_bd ((1 : Int32) <<< ((wt_gf z2.2 34 4) &&& 31))
        exact ⟨rfl, (show 0 ≤ ((1 : Int32)).toInt by omega)⟩
      · skip
        have bb54 := wt_bd (wt_gf z2.2 34 4)
        have tt55 : (wt_gf z2.2 34 4).toInt = (wt_gf σ 34 4).toInt := congrArg Int32.toInt (l4.1 34 4 (fun z => z))
        have bb56 := wt_bd (wt_gf σ 34 4)
        have k57 : (31 : Int32).toInt = 31 := by decide
        have bb58 := wt_bd ((wt_gf z2.2 34 4) &&& 31)
        have bb59 := wt_bd ((1 : Int32) <<< ((wt_gf z2.2 34 4) &&& 31))
        show (((1 : Int32) <<< ((wt_gf z2.2 34 4) &&& 31)).toInt - (1 : Int32).toInt + 0).toNat < n
        omega
    · skip
      have c60 := wt_ncle h9
      refine wt_T_bi (wq_sk_ready n hn 40 z2.1 x1 z2.2) (fun r61 h62 => ?_)
      have e63 := h62
      rw [e63]
      refine wt_T_gd (wt_ix (by omega) (by omega)) ?_
      obtain ⟨σ64, eσ64⟩ : ∃ z : wt_St, z = wt_sa z2.2 106 (Int32.toNatClampNeg z2.1) r61.1 := ⟨_, rfl⟩
      rw [← eσ64]
      have fσ64 := wt_fr_sa eσ64
      have vσ64 := wt_ceq (wt_v_sa eσ64)
      refine hKK1 _ ⟨(wt_fr.tr (wt_fr.tr wt_fr.rf l4 (fun i k h => h.elim) (fun i h => by (try dsimp only at h); exact (by first | exact h | omega))) fσ64 (fun i k h => h.elim) (fun i h => by (try dsimp only at h); exact (by first | exact h | omega))), (wt_nn (B := (26 : Int32)) (by omega) (by omega))⟩ ?_
      show ((26 : Int32).toInt - (z2.1 + (1 : Int32)).toInt + 0).toNat < ((26 : Int32).toInt - z2.1.toInt + 0).toNat
      exact wt_mu (by omega) (by omega)
  · skip
    have k65 : (26 : Int32).toInt = 26 := by decide
    exact ⟨wt_fr.rf, (show 0 ≤ ((0 : Int32)).toInt by omega)⟩
  · skip
    have k66 : (26 : Int32).toInt = 26 := by decide
    show ((26 : Int32).toInt - (0 : Int32).toInt + 0).toNat < n
    omega
set_option maxRecDepth 100000 in
set_option maxHeartbeats 4000000 in
theorem wq_pg_standing (n : Nat) (hn : 4294967297 < n) (σ : wt_St) : wt_T (wp_pg_standing n σ) (fun q => q.2 = σ) := by
  unfold wp_pg_standing
  have k6 : (0 : Int32).toInt = 0 := by decide
  refine wt_T_it (fun s : Int32 × Int32 × wt_St => s.2.2 = σ ∧ 0 ≤ (s.2.1).toInt) (fun s : Int32 × Int32 × wt_St => ((4 : Int32).toInt - s.2.1.toInt + 0).toNat) (fun KK1 z2 I3 hKK1 => ?_) _ _ ?_ ?_
  · skip
    obtain ⟨l4, l5⟩ := I3
    unfold wp_pg_standing_B4
    rw [l4]
    have k7 : (4 : Int32).toInt = 4 := by decide
    have bb8 := wt_bd z2.2.1
    refine wt_T_if (fun h9 => ?_) (fun h9 => ?_)
    · skip
      have c10 := wt_cle h9
      refine wt_T_some ?_
      exact rfl
    · skip
      have c11 := wt_ncle h9
      refine wt_T_bi (wq_pg_stands n hn z2.2.1 σ) (fun r12 h13 => ?_)
      have e14 := h13
      rw [e14]
      have bb15 := wt_bd r12.1
      refine wt_T_if (fun h16 => ?_) (fun h16 => ?_)
      · skip
        have c17 := wt_ceq h16
        unfold wp_pg_standing_B23
        refine hKK1 _ ⟨rfl, (wt_nn (B := (4 : Int32)) (by omega) (by first | (rw [l4]; omega) | (rw [l4]; done) | omega))⟩ ?_
        show ((4 : Int32).toInt - (z2.2.1 + (1 : Int32)).toInt + 0).toNat < ((4 : Int32).toInt - z2.2.1.toInt + 0).toNat
        exact wt_mu (by first | (rw [l4]; omega) | (rw [l4]; done) | omega) (by first | (rw [l4]; omega) | (rw [l4]; done) | omega)
      · skip
        have c18 := wt_nceq h16
        unfold wp_pg_standing_B23
        refine hKK1 _ ⟨rfl, (wt_nn (B := (4 : Int32)) (by omega) (by first | (rw [l4]; omega) | (rw [l4]; done) | omega))⟩ ?_
        show ((4 : Int32).toInt - (z2.2.1 + (1 : Int32)).toInt + 0).toNat < ((4 : Int32).toInt - z2.2.1.toInt + 0).toNat
        exact wt_mu (by first | (rw [l4]; omega) | (rw [l4]; done) | omega) (by first | (rw [l4]; omega) | (rw [l4]; done) | omega)
  · skip
    have k19 : (4 : Int32).toInt = 4 := by decide
    exact ⟨rfl, (show 0 ≤ ((0 : Int32)).toInt by omega)⟩
  · skip
    have k20 : (4 : Int32).toInt = 4 := by decide
    show ((4 : Int32).toInt - (0 : Int32).toInt + 0).toNat < n
    omega
set_option maxRecDepth 100000 in
set_option maxHeartbeats 4000000 in
theorem wq_tg_become (n : Nat) (hn : 4294967297 < n) (t0 : Nat) (t1 : Nat) (σ : wt_St) : wt_T (wp_tg_become n t0 t1 σ) (fun q => wt_fr (fun i k => (i = t0 ∧ k = 6) ∨ (i = t0 ∧ k = 7)) (fun i => i = t0 + 1 ∨ i = t0 + 2 ∨ i = t0 + 3 ∨ i = t0 + 4 ∨ i = t0 + 5 ∨ i = t0 + 6) σ q) := by
  unfold wp_tg_become
  refine wt_T_bi (wq_ap_copyRow n hn (t1 + 1) (t0 + 1) σ) (fun r1 h2 => ?_)
  have f3 := h2
  refine wt_T_bi (wq_ap_copyRow n hn (t1 + 2) (t0 + 2) r1) (fun r4 h5 => ?_)
  have f6 := h5
  refine wt_T_bi (wq_ap_copyRow n hn (t1 + 3) (t0 + 3) r4) (fun r7 h8 => ?_)
  have f9 := h8
  refine wt_T_bi (wq_ap_copyRow n hn (t1 + 4) (t0 + 4) r7) (fun r10 h11 => ?_)
  have f12 := h11
  refine wt_T_bi (wq_ap_copyRow n hn (t1 + 5) (t0 + 5) r10) (fun r13 h14 => ?_)
  have f15 := h14
  refine wt_T_bi (wq_ap_copyRow n hn (t1 + 6) (t0 + 6) r13) (fun r16 h17 => ?_)
  have f18 := h17
  obtain ⟨σ19, eσ19⟩ : ∃ z : wt_St, z = wt_sf r16 t0 6 (wt_gf r16 t1 6) := ⟨_, rfl⟩
  rw [← eσ19]
  have fσ19 := wt_fr_sf eσ19
  have vσ19 := wt_ceq (wt_v_sf eσ19)
  obtain ⟨σ20, eσ20⟩ : ∃ z : wt_St, z = wt_sf σ19 t0 7 (wt_gf σ19 t1 7) := ⟨_, rfl⟩
  rw [← eσ20]
  have fσ20 := wt_fr_sf eσ20
  have vσ20 := wt_ceq (wt_v_sf eσ20)
  refine wt_T_some ?_
  exact (wt_fr.tr (wt_fr.tr (wt_fr.tr (wt_fr.tr (wt_fr.tr (wt_fr.tr (wt_fr.tr (wt_fr.tr wt_fr.rf f3 (fun i k h => h.elim) (fun i h => by (try dsimp only at h); exact Or.inl (by first | exact h | omega))) f6 (fun i k h => h.elim) (fun i h => by (try dsimp only at h); exact Or.inr (Or.inl (by first | exact h | omega)))) f9 (fun i k h => h.elim) (fun i h => by (try dsimp only at h); exact Or.inr (Or.inr (Or.inl (by first | exact h | omega))))) f12 (fun i k h => h.elim) (fun i h => by (try dsimp only at h); exact Or.inr (Or.inr (Or.inr (Or.inl (by first | exact h | omega)))))) f15 (fun i k h => h.elim) (fun i h => by (try dsimp only at h); exact Or.inr (Or.inr (Or.inr (Or.inr (Or.inl (by first | exact h | omega))))))) f18 (fun i k h => h.elim) (fun i h => by (try dsimp only at h); exact Or.inr (Or.inr (Or.inr (Or.inr (Or.inr (by first | exact h | omega))))))) fσ19 (fun i k h => by (try dsimp only at h); exact Or.inl (by first | exact h | omega)) (fun i h => h.elim)) fσ20 (fun i k h => by (try dsimp only at h); exact Or.inr (by first | exact h | omega)) (fun i h => h.elim))
set_option maxRecDepth 100000 in
set_option maxHeartbeats 4000000 in
theorem wq_tg_fillWord (n : Nat) (hn : 4294967297 < n) (t0 : Nat) (x2 : Int32) (σ : wt_St) : wt_T (wp_tg_fillWord n t0 x2 σ) (fun q => wt_fr (fun i k => (i = 1 ∧ k = 5) ∨ (i = 1 ∧ k = 4) ∨ (i = 1 ∧ k = 6) ∨ (i = 1 ∧ k = 7) ∨ (i = t0 ∧ k = 6)) (fun i => i = 3 ∨ i = t0 + 2 ∨ i = t0 + 3 ∨ i = t0 + 4 ∨ i = t0 + 1) σ q.2) := by
  unfold wp_tg_fillWord
  refine wt_T_bi (wq_tp_takeWord n hn σ) (fun r1 h2 => ?_)
  have f3 := h2
  have bb4 := wt_bd r1.1
  have k5 : (0 : Int32).toInt = 0 := by decide
  refine wt_T_if (fun h6 => ?_) (fun h6 => ?_)
  · skip
    have c7 := wt_ceq h6
    refine wt_T_some ?_
    exact (wt_fr.tr wt_fr.rf f3 (fun i k h => by (try dsimp only at h); rcases h with h | h | h | h; exact Or.inl (by first | exact h | omega); exact Or.inr (Or.inl (by first | exact h | omega)); exact Or.inr (Or.inr (Or.inl (by first | exact h | omega))); exact Or.inr (Or.inr (Or.inr (Or.inl (by first | exact h | omega))))) (fun i h => by (try dsimp only at h); exact Or.inl (by first | exact h | omega)))
  · skip
    have c8 := wt_nceq h6
    refine wt_T_bi (wq_tp_wordLength n hn r1.2) (fun r9 h10 => ?_)
    have e11 := h10
    rw [e11]
    have k12 : (9 : Int32).toInt = 9 := by decide
    have bb13 := wt_bd r9.1
    refine wt_T_if (fun h14 => ?_) (fun h14 => ?_)
    · skip
      have c15 := wt_clt h14
      unfold wp_tg_fillWord_B33
      refine wt_T_bi (wq_tp_fail n hn (2 : Int32) r1.2) (fun r16 h17 => ?_)
      have f18 := h17
      refine wt_T_some ?_
      exact (wt_fr.tr (wt_fr.tr wt_fr.rf f3 (fun i k h => by (try dsimp only at h); rcases h with h | h | h | h; exact Or.inl (by first | exact h | omega); exact Or.inr (Or.inl (by first | exact h | omega)); exact Or.inr (Or.inr (Or.inl (by first | exact h | omega))); exact Or.inr (Or.inr (Or.inr (Or.inl (by first | exact h | omega))))) (fun i h => by (try dsimp only at h); exact Or.inl (by first | exact h | omega))) f18 (fun i k h => by (try dsimp only at h); rcases h with h | h; exact Or.inr (Or.inr (Or.inl (by first | exact h | omega))); exact Or.inr (Or.inr (Or.inr (Or.inl (by first | exact h | omega))))) (fun i h => h.elim))
    · skip
      have c19 := wt_ncl h14
      refine wt_T_bi (wq_tg_find n hn t0 3 r9.1 r1.2) (fun r20 h21 => ?_)
      have e22 := h21
      rw [e22]
      have bb23 := wt_bd r20.1
      refine wt_T_if (fun h24 => ?_) (fun h24 => ?_)
      · skip
        have c25 := wt_ceq h24
        rw [wt_lm1] at c25
        have k26 : (20 : Int32).toInt = 20 := by decide
        have bb27 := wt_bd (wt_gf r1.2 t0 7)
        refine wt_T_if (fun h28 => ?_) (fun h28 => ?_)
        · skip
          have c29 := wt_cle h28
          unfold wp_tg_fillWord_B62
          refine wt_T_bi (wq_tp_fail n hn (3 : Int32) r1.2) (fun r30 h31 => ?_)
          have f32 := h31
          refine wt_T_some ?_
          exact (wt_fr.tr (wt_fr.tr wt_fr.rf f3 (fun i k h => by (try dsimp only at h); rcases h with h | h | h | h; exact Or.inl (by first | exact h | omega); exact Or.inr (Or.inl (by first | exact h | omega)); exact Or.inr (Or.inr (Or.inl (by first | exact h | omega))); exact Or.inr (Or.inr (Or.inr (Or.inl (by first | exact h | omega))))) (fun i h => by (try dsimp only at h); exact Or.inl (by first | exact h | omega))) f32 (fun i k h => by (try dsimp only at h); rcases h with h | h; exact Or.inr (Or.inr (Or.inl (by first | exact h | omega))); exact Or.inr (Or.inr (Or.inr (Or.inl (by first | exact h | omega))))) (fun i h => h.elim))
        · skip
          have c33 := wt_ncle h28
          have k34 : (5 : Int32).toInt = 5 := by decide
          have bb35 := wt_bd x2
          refine wt_T_if (fun h36 => ?_) (fun h36 => ?_)
          · skip
            have c37 := wt_cle h36
            unfold wp_tg_fillWord_B62
            refine wt_T_bi (wq_tp_fail n hn (3 : Int32) r1.2) (fun r38 h39 => ?_)
            have f40 := h39
            refine wt_T_some ?_
            exact (wt_fr.tr (wt_fr.tr wt_fr.rf f3 (fun i k h => by (try dsimp only at h); rcases h with h | h | h | h; exact Or.inl (by first | exact h | omega); exact Or.inr (Or.inl (by first | exact h | omega)); exact Or.inr (Or.inr (Or.inl (by first | exact h | omega))); exact Or.inr (Or.inr (Or.inr (Or.inl (by first | exact h | omega))))) (fun i h => by (try dsimp only at h); exact Or.inl (by first | exact h | omega))) f40 (fun i k h => by (try dsimp only at h); rcases h with h | h; exact Or.inr (Or.inr (Or.inl (by first | exact h | omega))); exact Or.inr (Or.inr (Or.inr (Or.inl (by first | exact h | omega))))) (fun i h => h.elim))
          · skip
            have c41 := wt_ncle h36
            have bb42 := wt_bd (wt_gf r1.2 t0 6)
            have k43 : (60 : Int32).toInt = 60 := by decide
            refine wt_T_if (fun h44 => ?_) (fun h44 => ?_)
            · skip
              have c45 := wt_clt h44
              refine wt_T_it (fun s : Int32 × wt_St => wt_fr (fun i k => False) (fun i => i = t0 + 1) r1.2 s.2 ∧ 0 ≤ (s.1).toInt) (fun s : Int32 × wt_St => (r9.1.toInt - s.1.toInt + 0).toNat) (fun KK46 z47 I48 hKK46 => ?_) _ _ ?_ ?_
              · skip
                obtain ⟨l49, l50⟩ := I48
                unfold wp_tg_fillWord_B71
                have bb51 := wt_bd z47.1
                refine wt_T_if (fun h52 => ?_) (fun h52 => ?_)
                · skip
                  have c53 := wt_cle h52
                  refine wt_T_bi (wq_tp_takeSign n hn (47 : Int32) z47.2) (fun r54 h55 => ?_)
                  have f56 := h55
                  have bb57 := wt_bd r54.1
                  refine wt_T_if (fun h58 => ?_) (fun h58 => ?_)
                  · skip
                    have c59 := wt_ceq h58
                    unfold wp_tg_fillWord_B128
                    refine wt_T_if (fun h60 => ?_) (fun h60 => ?_)
                    · skip
                      have c61 := wt_ceq h60
                      rw [wt_lm1] at c61
                      refine wt_T_some ?_
                      exact (wt_fr.tr (wt_fr.tr (wt_fr.tr wt_fr.rf f3 (fun i k h => by (try dsimp only at h); rcases h with h | h | h | h; exact Or.inl (by first | exact h | omega); exact Or.inr (Or.inl (by first | exact h | omega)); exact Or.inr (Or.inr (Or.inl (by first | exact h | omega))); exact Or.inr (Or.inr (Or.inr (Or.inl (by first | exact h | omega))))) (fun i h => by (try dsimp only at h); exact Or.inl (by first | exact h | omega))) l49 (fun i k h => h.elim) (fun i h => by (try dsimp only at h); exact Or.inr (Or.inr (Or.inr (Or.inr (by first | exact h | omega)))))) f56 (fun i k h => by (try dsimp only at h); rcases h with h | h; exact Or.inl (by first | exact h | omega); exact Or.inr (Or.inl (by first | exact h | omega))) (fun i h => h.elim))
                    · skip
                      have c62 := wt_nceq h60
                      rw [wt_lm1] at c62
                      refine wt_T_bi (wq_ap_put n hn (t0 + 2) (wt_gf r54.2 t0 6) r9.1 r54.2) (fun r63 h64 => ?_)
                      have f65 := h64
                      refine wt_T_bi (wq_ap_put n hn (t0 + 3) (wt_gf r63 t0 6) (0 : Int32) r63) (fun r66 h67 => ?_)
                      have f68 := h67
                      refine wt_T_bi (wq_ap_put n hn (t0 + 4) (wt_gf r66 t0 6) (wt_gf r66 t0 7) r66) (fun r69 h70 => ?_)
                      have f71 := h70
                      obtain ⟨σ72, eσ72⟩ : ∃ z : wt_St, z = wt_sf r69 t0 6 ((wt_gf r69 t0 6) + (1 : Int32)) := ⟨_, rfl⟩
                      rw [← eσ72]
                      have fσ72 := wt_fr_sf eσ72
                      have vσ72 := wt_ceq (wt_v_sf eσ72)
                      refine wt_T_some ?_
                      exact (wt_fr.tr (wt_fr.tr (wt_fr.tr (wt_fr.tr (wt_fr.tr (wt_fr.tr (wt_fr.tr wt_fr.rf f3 (fun i k h => by (try dsimp only at h); rcases h with h | h | h | h; exact Or.inl (by first | exact h | omega); exact Or.inr (Or.inl (by first | exact h | omega)); exact Or.inr (Or.inr (Or.inl (by first | exact h | omega))); exact Or.inr (Or.inr (Or.inr (Or.inl (by first | exact h | omega))))) (fun i h => by (try dsimp only at h); exact Or.inl (by first | exact h | omega))) l49 (fun i k h => h.elim) (fun i h => by (try dsimp only at h); exact Or.inr (Or.inr (Or.inr (Or.inr (by first | exact h | omega)))))) f56 (fun i k h => by (try dsimp only at h); rcases h with h | h; exact Or.inl (by first | exact h | omega); exact Or.inr (Or.inl (by first | exact h | omega))) (fun i h => h.elim)) f65 (fun i k h => h.elim) (fun i h => by (try dsimp only at h); exact Or.inr (Or.inl (by first | exact h | omega)))) f68 (fun i k h => h.elim) (fun i h => by (try dsimp only at h); exact Or.inr (Or.inr (Or.inl (by first | exact h | omega))))) f71 (fun i k h => h.elim) (fun i h => by (try dsimp only at h); exact Or.inr (Or.inr (Or.inr (Or.inl (by first | exact h | omega)))))) fσ72 (fun i k h => by (try dsimp only at h); exact Or.inr (Or.inr (Or.inr (Or.inr (by first | exact h | omega))))) (fun i h => h.elim))
                  · skip
                    have c73 := wt_nceq h58
                    refine wt_T_bi (wq_tp_takeNumber n hn (0 : Int32) (3 : Int32) r54.2) (fun r74 h75 => ?_)
                    have f76 := h75
                    unfold wp_tg_fillWord_B128
                    have bb77 := wt_bd r74.1
                    refine wt_T_if (fun h78 => ?_) (fun h78 => ?_)
                    · skip
                      have c79 := wt_ceq h78
                      rw [wt_lm1] at c79
                      refine wt_T_some ?_
                      exact (wt_fr.tr (wt_fr.tr (wt_fr.tr (wt_fr.tr wt_fr.rf f3 (fun i k h => by (try dsimp only at h); rcases h with h | h | h | h; exact Or.inl (by first | exact h | omega); exact Or.inr (Or.inl (by first | exact h | omega)); exact Or.inr (Or.inr (Or.inl (by first | exact h | omega))); exact Or.inr (Or.inr (Or.inr (Or.inl (by first | exact h | omega))))) (fun i h => by (try dsimp only at h); exact Or.inl (by first | exact h | omega))) l49 (fun i k h => h.elim) (fun i h => by (try dsimp only at h); exact Or.inr (Or.inr (Or.inr (Or.inr (by first | exact h | omega)))))) f56 (fun i k h => by (try dsimp only at h); rcases h with h | h; exact Or.inl (by first | exact h | omega); exact Or.inr (Or.inl (by first | exact h | omega))) (fun i h => h.elim)) f76 (fun i k h => by (try dsimp only at h); rcases h with h | h | h | h; exact Or.inl (by first | exact h | omega); exact Or.inr (Or.inl (by first | exact h | omega)); exact Or.inr (Or.inr (Or.inl (by first | exact h | omega))); exact Or.inr (Or.inr (Or.inr (Or.inl (by first | exact h | omega))))) (fun i h => h.elim))
                    · skip
                      have c80 := wt_nceq h78
                      rw [wt_lm1] at c80
                      refine wt_T_bi (wq_ap_put n hn (t0 + 2) (wt_gf r74.2 t0 6) r9.1 r74.2) (fun r81 h82 => ?_)
                      have f83 := h82
                      refine wt_T_bi (wq_ap_put n hn (t0 + 3) (wt_gf r81 t0 6) r74.1 r81) (fun r84 h85 => ?_)
                      have f86 := h85
                      refine wt_T_bi (wq_ap_put n hn (t0 + 4) (wt_gf r84 t0 6) (wt_gf r84 t0 7) r84) (fun r87 h88 => ?_)
                      have f89 := h88
                      obtain ⟨σ90, eσ90⟩ : ∃ z : wt_St, z = wt_sf r87 t0 6 ((wt_gf r87 t0 6) + (1 : Int32)) := ⟨_, rfl⟩
                      rw [← eσ90]
                      have fσ90 := wt_fr_sf eσ90
                      have vσ90 := wt_ceq (wt_v_sf eσ90)
                      refine wt_T_some ?_
                      exact (wt_fr.tr (wt_fr.tr (wt_fr.tr (wt_fr.tr (wt_fr.tr (wt_fr.tr (wt_fr.tr (wt_fr.tr wt_fr.rf f3 (fun i k h => by (try dsimp only at h); rcases h with h | h | h | h; exact Or.inl (by first | exact h | omega); exact Or.inr (Or.inl (by first | exact h | omega)); exact Or.inr (Or.inr (Or.inl (by first | exact h | omega))); exact Or.inr (Or.inr (Or.inr (Or.inl (by first | exact h | omega))))) (fun i h => by (try dsimp only at h); exact Or.inl (by first | exact h | omega))) l49 (fun i k h => h.elim) (fun i h => by (try dsimp only at h); exact Or.inr (Or.inr (Or.inr (Or.inr (by first | exact h | omega)))))) f56 (fun i k h => by (try dsimp only at h); rcases h with h | h; exact Or.inl (by first | exact h | omega); exact Or.inr (Or.inl (by first | exact h | omega))) (fun i h => h.elim)) f76 (fun i k h => by (try dsimp only at h); rcases h with h | h | h | h; exact Or.inl (by first | exact h | omega); exact Or.inr (Or.inl (by first | exact h | omega)); exact Or.inr (Or.inr (Or.inl (by first | exact h | omega))); exact Or.inr (Or.inr (Or.inr (Or.inl (by first | exact h | omega))))) (fun i h => h.elim)) f83 (fun i k h => h.elim) (fun i h => by (try dsimp only at h); exact Or.inr (Or.inl (by first | exact h | omega)))) f86 (fun i k h => h.elim) (fun i h => by (try dsimp only at h); exact Or.inr (Or.inr (Or.inl (by first | exact h | omega))))) f89 (fun i k h => h.elim) (fun i h => by (try dsimp only at h); exact Or.inr (Or.inr (Or.inr (Or.inl (by first | exact h | omega)))))) fσ90 (fun i k h => by (try dsimp only at h); exact Or.inr (Or.inr (Or.inr (Or.inr (by first | exact h | omega))))) (fun i h => h.elim))
                · skip
                  have c91 := wt_ncle h52
                  refine wt_T_bi (wq_ap_look n hn 3 z47.1 z47.2) (fun r92 h93 => ?_)
                  obtain ⟨e94, e94v⟩ := h93
                  have e95 := wt_ceq e94v
                  have bb96 := wt_bd (wt_lk 3 z47.1 z47.2)
                  have bb97 := wt_bd r92.1
                  rw [e94]
                  refine wt_T_bi (wq_ap_put n hn (t0 + 1) (((wt_gf z47.2 t0 6) * (9 : Int32)) + z47.1) r92.1 z47.2) (fun r98 h99 => ?_)
                  have f100 := h99
                  refine hKK46 _ ⟨(wt_fr.tr (wt_fr.tr wt_fr.rf l49 (fun i k h => h.elim) (fun i h => by (try dsimp only at h); exact (by first | exact h | omega))) f100 (fun i k h => h.elim) (fun i h => by (try dsimp only at h); exact (by first | exact h | omega))), (wt_nn (B := r9.1) (by omega) (by omega))⟩ ?_
                  show (r9.1.toInt - (z47.1 + (1 : Int32)).toInt + 0).toNat < (r9.1.toInt - z47.1.toInt + 0).toNat
                  exact wt_mu (by omega) (by omega)
              · skip
                exact ⟨wt_fr.rf, (show 0 ≤ ((0 : Int32)).toInt by omega)⟩
              · skip
                show (r9.1.toInt - (0 : Int32).toInt + 0).toNat < n
                omega
            · skip
              have c101 := wt_ncl h44
              unfold wp_tg_fillWord_B62
              refine wt_T_bi (wq_tp_fail n hn (3 : Int32) r1.2) (fun r102 h103 => ?_)
              have f104 := h103
              refine wt_T_some ?_
              exact (wt_fr.tr (wt_fr.tr wt_fr.rf f3 (fun i k h => by (try dsimp only at h); rcases h with h | h | h | h; exact Or.inl (by first | exact h | omega); exact Or.inr (Or.inl (by first | exact h | omega)); exact Or.inr (Or.inr (Or.inl (by first | exact h | omega))); exact Or.inr (Or.inr (Or.inr (Or.inl (by first | exact h | omega))))) (fun i h => by (try dsimp only at h); exact Or.inl (by first | exact h | omega))) f104 (fun i k h => by (try dsimp only at h); rcases h with h | h; exact Or.inr (Or.inr (Or.inl (by first | exact h | omega))); exact Or.inr (Or.inr (Or.inr (Or.inl (by first | exact h | omega))))) (fun i h => h.elim))
      · skip
        have c105 := wt_nceq h24
        rw [wt_lm1] at c105
        unfold wp_tg_fillWord_B33
        refine wt_T_bi (wq_tp_fail n hn (2 : Int32) r1.2) (fun r106 h107 => ?_)
        have f108 := h107
        refine wt_T_some ?_
        exact (wt_fr.tr (wt_fr.tr wt_fr.rf f3 (fun i k h => by (try dsimp only at h); rcases h with h | h | h | h; exact Or.inl (by first | exact h | omega); exact Or.inr (Or.inl (by first | exact h | omega)); exact Or.inr (Or.inr (Or.inl (by first | exact h | omega))); exact Or.inr (Or.inr (Or.inr (Or.inl (by first | exact h | omega))))) (fun i h => by (try dsimp only at h); exact Or.inl (by first | exact h | omega))) f108 (fun i k h => by (try dsimp only at h); rcases h with h | h; exact Or.inr (Or.inr (Or.inl (by first | exact h | omega))); exact Or.inr (Or.inr (Or.inr (Or.inl (by first | exact h | omega))))) (fun i h => h.elim))
set_option maxRecDepth 100000 in
set_option maxHeartbeats 4000000 in
theorem wq_tg_fillGroup (n : Nat) (hn : 4294967297 < n) (t0 : Nat) (σ : wt_St) : wt_T (wp_tg_fillGroup n t0 σ) (fun q => wt_fr (fun i k => (i = 1 ∧ k = 5) ∨ (i = 1 ∧ k = 4) ∨ (i = 1 ∧ k = 6) ∨ (i = 1 ∧ k = 7) ∨ (i = t0 ∧ k = 6) ∨ (i = t0 ∧ k = 7)) (fun i => i = 3 ∨ i = t0 + 2 ∨ i = t0 + 3 ∨ i = t0 + 4 ∨ i = t0 + 1 ∨ i = t0 + 5 ∨ i = t0 + 6) σ q.2) := by
  unfold wp_tg_fillGroup
  have k6 : (0 : Int32).toInt = 0 := by decide
  refine wt_T_it (fun s : Int32 × wt_St => wt_fr (fun i k => (i = 1 ∧ k = 5) ∨ (i = 1 ∧ k = 4) ∨ (i = 1 ∧ k = 6) ∨ (i = 1 ∧ k = 7) ∨ (i = t0 ∧ k = 6)) (fun i => i = 3 ∨ i = t0 + 2 ∨ i = t0 + 3 ∨ i = t0 + 4 ∨ i = t0 + 1) σ s.2 ∧ 0 ≤ (s.1).toInt) (fun s : Int32 × wt_St => ((5 : Int32).toInt - s.1.toInt + 1).toNat) (fun KK1 z2 I3 hKK1 => ?_) _ _ ?_ ?_
  · skip
    obtain ⟨l4, l5⟩ := I3
    unfold wp_tg_fillGroup_B7
    have k7 : (5 : Int32).toInt = 5 := by decide
    have bb8 := wt_bd z2.1
    refine wt_T_if (fun h9 => ?_) (fun h9 => ?_)
    · skip
      have c10 := wt_clt h9
      refine wt_T_some ?_
      exact (wt_fr.tr wt_fr.rf l4 (fun i k h => by (try dsimp only at h); rcases h with h | h | h | h | h; exact Or.inl (by first | exact h | omega); exact Or.inr (Or.inl (by first | exact h | omega)); exact Or.inr (Or.inr (Or.inl (by first | exact h | omega))); exact Or.inr (Or.inr (Or.inr (Or.inl (by first | exact h | omega)))); exact Or.inr (Or.inr (Or.inr (Or.inr (Or.inl (by first | exact h | omega)))))) (fun i h => by (try dsimp only at h); rcases h with h | h | h | h | h; exact Or.inl (by first | exact h | omega); exact Or.inr (Or.inl (by first | exact h | omega)); exact Or.inr (Or.inr (Or.inl (by first | exact h | omega))); exact Or.inr (Or.inr (Or.inr (Or.inl (by first | exact h | omega)))); exact Or.inr (Or.inr (Or.inr (Or.inr (Or.inl (by first | exact h | omega)))))))
    · skip
      have c11 := wt_ncl h9
      refine wt_T_bi (wq_tg_fillWord n hn t0 z2.1 z2.2) (fun r12 h13 => ?_)
      have f14 := h13
      have bb15 := wt_bd r12.1
      refine wt_T_if (fun h16 => ?_) (fun h16 => ?_)
      · skip
        have c17 := wt_ceq h16
        refine wt_T_some ?_
        exact (wt_fr.tr (wt_fr.tr wt_fr.rf l4 (fun i k h => by (try dsimp only at h); rcases h with h | h | h | h | h; exact Or.inl (by first | exact h | omega); exact Or.inr (Or.inl (by first | exact h | omega)); exact Or.inr (Or.inr (Or.inl (by first | exact h | omega))); exact Or.inr (Or.inr (Or.inr (Or.inl (by first | exact h | omega)))); exact Or.inr (Or.inr (Or.inr (Or.inr (Or.inl (by first | exact h | omega)))))) (fun i h => by (try dsimp only at h); rcases h with h | h | h | h | h; exact Or.inl (by first | exact h | omega); exact Or.inr (Or.inl (by first | exact h | omega)); exact Or.inr (Or.inr (Or.inl (by first | exact h | omega))); exact Or.inr (Or.inr (Or.inr (Or.inl (by first | exact h | omega)))); exact Or.inr (Or.inr (Or.inr (Or.inr (Or.inl (by first | exact h | omega))))))) f14 (fun i k h => by (try dsimp only at h); rcases h with h | h | h | h | h; exact Or.inl (by first | exact h | omega); exact Or.inr (Or.inl (by first | exact h | omega)); exact Or.inr (Or.inr (Or.inl (by first | exact h | omega))); exact Or.inr (Or.inr (Or.inr (Or.inl (by first | exact h | omega)))); exact Or.inr (Or.inr (Or.inr (Or.inr (Or.inl (by first | exact h | omega)))))) (fun i h => by (try dsimp only at h); rcases h with h | h | h | h | h; exact Or.inl (by first | exact h | omega); exact Or.inr (Or.inl (by first | exact h | omega)); exact Or.inr (Or.inr (Or.inl (by first | exact h | omega))); exact Or.inr (Or.inr (Or.inr (Or.inl (by first | exact h | omega)))); exact Or.inr (Or.inr (Or.inr (Or.inr (Or.inl (by first | exact h | omega)))))))
      · skip
        have c18 := wt_nceq h16
        refine wt_T_bi (wq_tp_takeSign n hn (44 : Int32) r12.2) (fun r19 h20 => ?_)
        have f21 := h20
        have bb22 := wt_bd r19.1
        refine wt_T_if (fun h23 => ?_) (fun h23 => ?_)
        · skip
          have c24 := wt_ceq h23
          refine wt_T_bi (wq_ap_put n hn (t0 + 5) (wt_gf r19.2 t0 7) (wt_gf σ t0 6) r19.2) (fun r25 h26 => ?_)
          have f27 := h26
          refine wt_T_bi (wq_ap_put n hn (t0 + 6) (wt_gf r25 t0 7) ((wt_gf r25 t0 6) - (wt_gf σ t0 6)) r25) (fun r28 h29 => ?_)
          have f30 := h29
          obtain ⟨σ31, eσ31⟩ : ∃ z : wt_St, z = wt_sf r28 t0 7 ((wt_gf r28 t0 7) + (1 : Int32)) := ⟨_, rfl⟩
          rw [← eσ31]
          have fσ31 := wt_fr_sf eσ31
          have vσ31 := wt_ceq (wt_v_sf eσ31)
          refine wt_T_bi (wq_tp_needSign n hn (59 : Int32) σ31) (fun r32 h33 => ?_)
          have f34 := h33
          refine wt_T_some ?_
          exact (wt_fr.tr (wt_fr.tr (wt_fr.tr (wt_fr.tr (wt_fr.tr (wt_fr.tr (wt_fr.tr wt_fr.rf l4 (fun i k h => by (try dsimp only at h); rcases h with h | h | h | h | h; exact Or.inl (by first | exact h | omega); exact Or.inr (Or.inl (by first | exact h | omega)); exact Or.inr (Or.inr (Or.inl (by first | exact h | omega))); exact Or.inr (Or.inr (Or.inr (Or.inl (by first | exact h | omega)))); exact Or.inr (Or.inr (Or.inr (Or.inr (Or.inl (by first | exact h | omega)))))) (fun i h => by (try dsimp only at h); rcases h with h | h | h | h | h; exact Or.inl (by first | exact h | omega); exact Or.inr (Or.inl (by first | exact h | omega)); exact Or.inr (Or.inr (Or.inl (by first | exact h | omega))); exact Or.inr (Or.inr (Or.inr (Or.inl (by first | exact h | omega)))); exact Or.inr (Or.inr (Or.inr (Or.inr (Or.inl (by first | exact h | omega))))))) f14 (fun i k h => by (try dsimp only at h); rcases h with h | h | h | h | h; exact Or.inl (by first | exact h | omega); exact Or.inr (Or.inl (by first | exact h | omega)); exact Or.inr (Or.inr (Or.inl (by first | exact h | omega))); exact Or.inr (Or.inr (Or.inr (Or.inl (by first | exact h | omega)))); exact Or.inr (Or.inr (Or.inr (Or.inr (Or.inl (by first | exact h | omega)))))) (fun i h => by (try dsimp only at h); rcases h with h | h | h | h | h; exact Or.inl (by first | exact h | omega); exact Or.inr (Or.inl (by first | exact h | omega)); exact Or.inr (Or.inr (Or.inl (by first | exact h | omega))); exact Or.inr (Or.inr (Or.inr (Or.inl (by first | exact h | omega)))); exact Or.inr (Or.inr (Or.inr (Or.inr (Or.inl (by first | exact h | omega))))))) f21 (fun i k h => by (try dsimp only at h); rcases h with h | h; exact Or.inl (by first | exact h | omega); exact Or.inr (Or.inl (by first | exact h | omega))) (fun i h => h.elim)) f27 (fun i k h => h.elim) (fun i h => by (try dsimp only at h); exact Or.inr (Or.inr (Or.inr (Or.inr (Or.inr (Or.inl (by first | exact h | omega)))))))) f30 (fun i k h => h.elim) (fun i h => by (try dsimp only at h); exact Or.inr (Or.inr (Or.inr (Or.inr (Or.inr (Or.inr (by first | exact h | omega)))))))) fσ31 (fun i k h => by (try dsimp only at h); exact Or.inr (Or.inr (Or.inr (Or.inr (Or.inr (by first | exact h | omega)))))) (fun i h => h.elim)) f34 (fun i k h => by (try dsimp only at h); rcases h with h | h | h | h; exact Or.inl (by first | exact h | omega); exact Or.inr (Or.inl (by first | exact h | omega)); exact Or.inr (Or.inr (Or.inl (by first | exact h | omega))); exact Or.inr (Or.inr (Or.inr (Or.inl (by first | exact h | omega))))) (fun i h => h.elim))
        · skip
          have c35 := wt_nceq h23
          refine hKK1 _ ⟨(wt_fr.tr (wt_fr.tr (wt_fr.tr wt_fr.rf l4 (fun i k h => by (try dsimp only at h); rcases h with h | h | h | h | h; exact Or.inl (by first | exact h | omega); exact Or.inr (Or.inl (by first | exact h | omega)); exact Or.inr (Or.inr (Or.inl (by first | exact h | omega))); exact Or.inr (Or.inr (Or.inr (Or.inl (by first | exact h | omega)))); exact Or.inr (Or.inr (Or.inr (Or.inr (by first | exact h | omega))))) (fun i h => by (try dsimp only at h); rcases h with h | h | h | h | h; exact Or.inl (by first | exact h | omega); exact Or.inr (Or.inl (by first | exact h | omega)); exact Or.inr (Or.inr (Or.inl (by first | exact h | omega))); exact Or.inr (Or.inr (Or.inr (Or.inl (by first | exact h | omega)))); exact Or.inr (Or.inr (Or.inr (Or.inr (by first | exact h | omega)))))) f14 (fun i k h => by (try dsimp only at h); rcases h with h | h | h | h | h; exact Or.inl (by first | exact h | omega); exact Or.inr (Or.inl (by first | exact h | omega)); exact Or.inr (Or.inr (Or.inl (by first | exact h | omega))); exact Or.inr (Or.inr (Or.inr (Or.inl (by first | exact h | omega)))); exact Or.inr (Or.inr (Or.inr (Or.inr (by first | exact h | omega))))) (fun i h => by (try dsimp only at h); rcases h with h | h | h | h | h; exact Or.inl (by first | exact h | omega); exact Or.inr (Or.inl (by first | exact h | omega)); exact Or.inr (Or.inr (Or.inl (by first | exact h | omega))); exact Or.inr (Or.inr (Or.inr (Or.inl (by first | exact h | omega)))); exact Or.inr (Or.inr (Or.inr (Or.inr (by first | exact h | omega)))))) f21 (fun i k h => by (try dsimp only at h); rcases h with h | h; exact Or.inl (by first | exact h | omega); exact Or.inr (Or.inl (by first | exact h | omega))) (fun i h => h.elim)), (wt_nn1 (B := (5 : Int32)) (by omega) (by omega) (by omega))⟩ ?_
          show ((5 : Int32).toInt - (z2.1 + (1 : Int32)).toInt + 1).toNat < ((5 : Int32).toInt - z2.1.toInt + 1).toNat
          exact wt_mu1 (by omega) (by omega) (by omega)
  · skip
    have k36 : (5 : Int32).toInt = 5 := by decide
    exact ⟨wt_fr.rf, (show 0 ≤ ((0 : Int32)).toInt by omega)⟩
  · skip
    have k37 : (5 : Int32).toInt = 5 := by decide
    show ((5 : Int32).toInt - (0 : Int32).toInt + 1).toNat < n
    omega
set_option maxRecDepth 100000 in
set_option maxHeartbeats 4000000 in
theorem wq_tg_fill (n : Nat) (hn : 4294967297 < n) (t0 : Nat) (σ : wt_St) : wt_T (wp_tg_fill n t0 σ) (fun q => wt_fr (fun i k => (i = t0 ∧ k = 6) ∨ (i = t0 ∧ k = 7) ∨ (i = 1 ∧ k = 5) ∨ (i = 1 ∧ k = 4) ∨ (i = 1 ∧ k = 6) ∨ (i = 1 ∧ k = 7)) (fun i => i = 3 ∨ i = t0 + 2 ∨ i = t0 + 3 ∨ i = t0 + 4 ∨ i = t0 + 1 ∨ i = t0 + 5 ∨ i = t0 + 6) σ q.2) := by
  unfold wp_tg_fill
  obtain ⟨σ1, eσ1⟩ : ∃ z : wt_St, z = wt_sf σ t0 6 (0 : Int32) := ⟨_, rfl⟩
  rw [← eσ1]
  have fσ1 := wt_fr_sf eσ1
  have vσ1 := wt_ceq (wt_v_sf eσ1)
  obtain ⟨σ2, eσ2⟩ : ∃ z : wt_St, z = wt_sf σ1 t0 7 (0 : Int32) := ⟨_, rfl⟩
  rw [← eσ2]
  have fσ2 := wt_fr_sf eσ2
  have vσ2 := wt_ceq (wt_v_sf eσ2)
  have k8 : (0 : Int32).toInt = 0 := by decide
  refine wt_T_it (fun s : Int32 × wt_St => wt_fr (fun i k => (i = 1 ∧ k = 5) ∨ (i = 1 ∧ k = 4) ∨ (i = 1 ∧ k = 6) ∨ (i = 1 ∧ k = 7) ∨ (i = t0 ∧ k = 6) ∨ (i = t0 ∧ k = 7)) (fun i => i = 3 ∨ i = t0 + 2 ∨ i = t0 + 3 ∨ i = t0 + 4 ∨ i = t0 + 1 ∨ i = t0 + 5 ∨ i = t0 + 6) σ2 s.2 ∧ 0 ≤ (s.1).toInt) (fun s : Int32 × wt_St => ((20 : Int32).toInt - s.1.toInt + 1).toNat) (fun KK3 z4 I5 hKK3 => ?_) _ _ ?_ ?_
  · skip
    obtain ⟨l6, l7⟩ := I5
    unfold wp_tg_fill_B12
    have k9 : (20 : Int32).toInt = 20 := by decide
    have bb10 := wt_bd z4.1
    refine wt_T_if (fun h11 => ?_) (fun h11 => ?_)
    · skip
      have c12 := wt_clt h11
      refine wt_T_some ?_
      exact (wt_fr.tr (wt_fr.tr (wt_fr.tr wt_fr.rf fσ1 (fun i k h => by (try dsimp only at h); exact Or.inl (by first | exact h | omega)) (fun i h => h.elim)) fσ2 (fun i k h => by (try dsimp only at h); exact Or.inr (Or.inl (by first | exact h | omega))) (fun i h => h.elim)) l6 (fun i k h => by (try dsimp only at h); rcases h with h | h | h | h | h | h; exact Or.inr (Or.inr (Or.inl (by first | exact h | omega))); exact Or.inr (Or.inr (Or.inr (Or.inl (by first | exact h | omega)))); exact Or.inr (Or.inr (Or.inr (Or.inr (Or.inl (by first | exact h | omega))))); exact Or.inr (Or.inr (Or.inr (Or.inr (Or.inr (by first | exact h | omega))))); exact Or.inl (by first | exact h | omega); exact Or.inr (Or.inl (by first | exact h | omega))) (fun i h => by (try dsimp only at h); rcases h with h | h | h | h | h | h | h; exact Or.inl (by first | exact h | omega); exact Or.inr (Or.inl (by first | exact h | omega)); exact Or.inr (Or.inr (Or.inl (by first | exact h | omega))); exact Or.inr (Or.inr (Or.inr (Or.inl (by first | exact h | omega)))); exact Or.inr (Or.inr (Or.inr (Or.inr (Or.inl (by first | exact h | omega))))); exact Or.inr (Or.inr (Or.inr (Or.inr (Or.inr (Or.inl (by first | exact h | omega)))))); exact Or.inr (Or.inr (Or.inr (Or.inr (Or.inr (Or.inr (by first | exact h | omega))))))))
    · skip
      have c13 := wt_ncl h11
      refine wt_T_bi (wq_tp_over n hn z4.2) (fun r14 h15 => ?_)
      have f16 := h15
      have bb17 := wt_bd r14.1
      refine wt_T_if (fun h18 => ?_) (fun h18 => ?_)
      · skip
        have c19 := wt_ceq h18
        refine wt_T_bi (wq_tg_fillGroup n hn t0 r14.2) (fun r20 h21 => ?_)
        have f22 := h21
        have bb23 := wt_bd r20.1
        refine wt_T_if (fun h24 => ?_) (fun h24 => ?_)
        · skip
          have c25 := wt_ceq h24
          refine wt_T_some ?_
          exact (wt_fr.tr (wt_fr.tr (wt_fr.tr (wt_fr.tr (wt_fr.tr wt_fr.rf fσ1 (fun i k h => by (try dsimp only at h); exact Or.inl (by first | exact h | omega)) (fun i h => h.elim)) fσ2 (fun i k h => by (try dsimp only at h); exact Or.inr (Or.inl (by first | exact h | omega))) (fun i h => h.elim)) l6 (fun i k h => by (try dsimp only at h); rcases h with h | h | h | h | h | h; exact Or.inr (Or.inr (Or.inl (by first | exact h | omega))); exact Or.inr (Or.inr (Or.inr (Or.inl (by first | exact h | omega)))); exact Or.inr (Or.inr (Or.inr (Or.inr (Or.inl (by first | exact h | omega))))); exact Or.inr (Or.inr (Or.inr (Or.inr (Or.inr (by first | exact h | omega))))); exact Or.inl (by first | exact h | omega); exact Or.inr (Or.inl (by first | exact h | omega))) (fun i h => by (try dsimp only at h); rcases h with h | h | h | h | h | h | h; exact Or.inl (by first | exact h | omega); exact Or.inr (Or.inl (by first | exact h | omega)); exact Or.inr (Or.inr (Or.inl (by first | exact h | omega))); exact Or.inr (Or.inr (Or.inr (Or.inl (by first | exact h | omega)))); exact Or.inr (Or.inr (Or.inr (Or.inr (Or.inl (by first | exact h | omega))))); exact Or.inr (Or.inr (Or.inr (Or.inr (Or.inr (Or.inl (by first | exact h | omega)))))); exact Or.inr (Or.inr (Or.inr (Or.inr (Or.inr (Or.inr (by first | exact h | omega)))))))) f16 (fun i k h => by (try dsimp only at h); rcases h with h | h; exact Or.inr (Or.inr (Or.inl (by first | exact h | omega))); exact Or.inr (Or.inr (Or.inr (Or.inl (by first | exact h | omega))))) (fun i h => h.elim)) f22 (fun i k h => by (try dsimp only at h); rcases h with h | h | h | h | h | h; exact Or.inr (Or.inr (Or.inl (by first | exact h | omega))); exact Or.inr (Or.inr (Or.inr (Or.inl (by first | exact h | omega)))); exact Or.inr (Or.inr (Or.inr (Or.inr (Or.inl (by first | exact h | omega))))); exact Or.inr (Or.inr (Or.inr (Or.inr (Or.inr (by first | exact h | omega))))); exact Or.inl (by first | exact h | omega); exact Or.inr (Or.inl (by first | exact h | omega))) (fun i h => by (try dsimp only at h); rcases h with h | h | h | h | h | h | h; exact Or.inl (by first | exact h | omega); exact Or.inr (Or.inl (by first | exact h | omega)); exact Or.inr (Or.inr (Or.inl (by first | exact h | omega))); exact Or.inr (Or.inr (Or.inr (Or.inl (by first | exact h | omega)))); exact Or.inr (Or.inr (Or.inr (Or.inr (Or.inl (by first | exact h | omega))))); exact Or.inr (Or.inr (Or.inr (Or.inr (Or.inr (Or.inl (by first | exact h | omega)))))); exact Or.inr (Or.inr (Or.inr (Or.inr (Or.inr (Or.inr (by first | exact h | omega))))))))
        · skip
          have c26 := wt_nceq h24
          refine hKK3 _ ⟨(wt_fr.tr (wt_fr.tr (wt_fr.tr wt_fr.rf l6 (fun i k h => by (try dsimp only at h); rcases h with h | h | h | h | h | h; exact Or.inl (by first | exact h | omega); exact Or.inr (Or.inl (by first | exact h | omega)); exact Or.inr (Or.inr (Or.inl (by first | exact h | omega))); exact Or.inr (Or.inr (Or.inr (Or.inl (by first | exact h | omega)))); exact Or.inr (Or.inr (Or.inr (Or.inr (Or.inl (by first | exact h | omega))))); exact Or.inr (Or.inr (Or.inr (Or.inr (Or.inr (by first | exact h | omega)))))) (fun i h => by (try dsimp only at h); rcases h with h | h | h | h | h | h | h; exact Or.inl (by first | exact h | omega); exact Or.inr (Or.inl (by first | exact h | omega)); exact Or.inr (Or.inr (Or.inl (by first | exact h | omega))); exact Or.inr (Or.inr (Or.inr (Or.inl (by first | exact h | omega)))); exact Or.inr (Or.inr (Or.inr (Or.inr (Or.inl (by first | exact h | omega))))); exact Or.inr (Or.inr (Or.inr (Or.inr (Or.inr (Or.inl (by first | exact h | omega)))))); exact Or.inr (Or.inr (Or.inr (Or.inr (Or.inr (Or.inr (by first | exact h | omega)))))))) f16 (fun i k h => by (try dsimp only at h); rcases h with h | h; exact Or.inl (by first | exact h | omega); exact Or.inr (Or.inl (by first | exact h | omega))) (fun i h => h.elim)) f22 (fun i k h => by (try dsimp only at h); rcases h with h | h | h | h | h | h; exact Or.inl (by first | exact h | omega); exact Or.inr (Or.inl (by first | exact h | omega)); exact Or.inr (Or.inr (Or.inl (by first | exact h | omega))); exact Or.inr (Or.inr (Or.inr (Or.inl (by first | exact h | omega)))); exact Or.inr (Or.inr (Or.inr (Or.inr (Or.inl (by first | exact h | omega))))); exact Or.inr (Or.inr (Or.inr (Or.inr (Or.inr (by first | exact h | omega)))))) (fun i h => by (try dsimp only at h); rcases h with h | h | h | h | h | h | h; exact Or.inl (by first | exact h | omega); exact Or.inr (Or.inl (by first | exact h | omega)); exact Or.inr (Or.inr (Or.inl (by first | exact h | omega))); exact Or.inr (Or.inr (Or.inr (Or.inl (by first | exact h | omega)))); exact Or.inr (Or.inr (Or.inr (Or.inr (Or.inl (by first | exact h | omega))))); exact Or.inr (Or.inr (Or.inr (Or.inr (Or.inr (Or.inl (by first | exact h | omega)))))); exact Or.inr (Or.inr (Or.inr (Or.inr (Or.inr (Or.inr (by first | exact h | omega)))))))), (wt_nn1 (B := (20 : Int32)) (by omega) (by omega) (by omega))⟩ ?_
          show ((20 : Int32).toInt - (z4.1 + (1 : Int32)).toInt + 1).toNat < ((20 : Int32).toInt - z4.1.toInt + 1).toNat
          exact wt_mu1 (by omega) (by omega) (by omega)
      · skip
        have c27 := wt_nceq h18
        refine wt_T_some ?_
        exact (wt_fr.tr (wt_fr.tr (wt_fr.tr (wt_fr.tr wt_fr.rf fσ1 (fun i k h => by (try dsimp only at h); exact Or.inl (by first | exact h | omega)) (fun i h => h.elim)) fσ2 (fun i k h => by (try dsimp only at h); exact Or.inr (Or.inl (by first | exact h | omega))) (fun i h => h.elim)) l6 (fun i k h => by (try dsimp only at h); rcases h with h | h | h | h | h | h; exact Or.inr (Or.inr (Or.inl (by first | exact h | omega))); exact Or.inr (Or.inr (Or.inr (Or.inl (by first | exact h | omega)))); exact Or.inr (Or.inr (Or.inr (Or.inr (Or.inl (by first | exact h | omega))))); exact Or.inr (Or.inr (Or.inr (Or.inr (Or.inr (by first | exact h | omega))))); exact Or.inl (by first | exact h | omega); exact Or.inr (Or.inl (by first | exact h | omega))) (fun i h => by (try dsimp only at h); rcases h with h | h | h | h | h | h | h; exact Or.inl (by first | exact h | omega); exact Or.inr (Or.inl (by first | exact h | omega)); exact Or.inr (Or.inr (Or.inl (by first | exact h | omega))); exact Or.inr (Or.inr (Or.inr (Or.inl (by first | exact h | omega)))); exact Or.inr (Or.inr (Or.inr (Or.inr (Or.inl (by first | exact h | omega))))); exact Or.inr (Or.inr (Or.inr (Or.inr (Or.inr (Or.inl (by first | exact h | omega)))))); exact Or.inr (Or.inr (Or.inr (Or.inr (Or.inr (Or.inr (by first | exact h | omega)))))))) f16 (fun i k h => by (try dsimp only at h); rcases h with h | h; exact Or.inr (Or.inr (Or.inl (by first | exact h | omega))); exact Or.inr (Or.inr (Or.inr (Or.inl (by first | exact h | omega))))) (fun i h => h.elim))
  · skip
    have k28 : (20 : Int32).toInt = 20 := by decide
    exact ⟨wt_fr.rf, (show 0 ≤ ((0 : Int32)).toInt by omega)⟩
  · skip
    have k29 : (20 : Int32).toInt = 20 := by decide
    show ((20 : Int32).toInt - (0 : Int32).toInt + 1).toNat < n
    omega
set_option maxRecDepth 100000 in
set_option maxHeartbeats 4000000 in
theorem wq_st_addWanted (n : Nat) (hn : 4294967297 < n) (t0 : Nat) (x1 : Int32) (x2 : Int32) (x3 : Int32) (x4 : Int32) (σ : wt_St) : wt_T (wp_st_addWanted n t0 x1 x2 x3 x4 σ) (fun q => wt_fr (fun i k => (i = t0 ∧ k = 8)) (fun i => i = t0 + 5 ∨ i = t0 + 6 ∨ i = t0 + 7 ∨ i = t0 + 8) σ q) := by
  unfold wp_st_addWanted
  refine wt_T_bi (wq_ap_put n hn (t0 + 5) (wt_gf σ t0 8) x1 σ) (fun r1 h2 => ?_)
  have f3 := h2
  refine wt_T_bi (wq_ap_put n hn (t0 + 6) (wt_gf r1 t0 8) x2 r1) (fun r4 h5 => ?_)
  have f6 := h5
  refine wt_T_bi (wq_ap_put n hn (t0 + 7) (wt_gf r4 t0 8) x3 r4) (fun r7 h8 => ?_)
  have f9 := h8
  refine wt_T_bi (wq_ap_put n hn (t0 + 8) (wt_gf r7 t0 8) x4 r7) (fun r10 h11 => ?_)
  have f12 := h11
  obtain ⟨σ13, eσ13⟩ : ∃ z : wt_St, z = wt_sf r10 t0 8 ((wt_gf r10 t0 8) + (1 : Int32)) := ⟨_, rfl⟩
  rw [← eσ13]
  have fσ13 := wt_fr_sf eσ13
  have vσ13 := wt_ceq (wt_v_sf eσ13)
  refine wt_T_some ?_
  exact (wt_fr.tr (wt_fr.tr (wt_fr.tr (wt_fr.tr (wt_fr.tr wt_fr.rf f3 (fun i k h => h.elim) (fun i h => by (try dsimp only at h); exact Or.inl (by first | exact h | omega))) f6 (fun i k h => h.elim) (fun i h => by (try dsimp only at h); exact Or.inr (Or.inl (by first | exact h | omega)))) f9 (fun i k h => h.elim) (fun i h => by (try dsimp only at h); exact Or.inr (Or.inr (Or.inl (by first | exact h | omega))))) f12 (fun i k h => h.elim) (fun i h => by (try dsimp only at h); exact Or.inr (Or.inr (Or.inr (by first | exact h | omega))))) fσ13 (fun i k h => by (try dsimp only at h); exact (by first | exact h | omega)) (fun i h => h.elim))
set_option maxRecDepth 100000 in
set_option maxHeartbeats 4000000 in
theorem wq_rw_waysBehind (n : Nat) (hn : 4294967297 < n) (x1 : Int32) (x2 : Int32) (x3 : Int32) (σ : wt_St) : wt_T (wp_rw_waysBehind n x1 x2 x3 σ) (fun q => q.2 = σ) := by
  unfold wp_rw_waysBehind
  refine wt_T_bi (wq_tx_lengthOf n hn x1 σ) (fun r1 h2 => ?_)
  obtain ⟨e3, e3v⟩ := h2
  have e4 := wt_ceq e3v
  have bb5 := wt_bd (wt_lk 36 x1 σ)
  have bb6 := wt_bd r1.1
  rw [e3]
  have bb7 := wt_bd x2
  have k8 : (1 : Int32).toInt = 1 := by decide
  obtain ⟨j9, j9a, j9b⟩ := wt_addI x2 (1 : Int32)
  refine wt_T_if (fun h10 => ?_) (fun h10 => ?_)
  · skip
    have c11 := wt_clt h10
    refine wt_T_bi (wq_tx_wordAt n hn x1 (x2 + (1 : Int32)) σ) (fun r12 h13 => ?_)
    have e14 := h13
    rw [e14]
    have k20 : (0 : Int32).toInt = 0 := by decide
    refine wt_T_it (fun s : Int32 × Int32 × wt_St => s.2.2 = σ ∧ 0 ≤ (s.2.1).toInt) (fun s : Int32 × Int32 × wt_St => ((wt_lk2 (20 + 6) (20 + 4) r12.1 s.2.2).toInt - s.2.1.toInt + 0).toNat) (fun KK15 z16 I17 hKK15 => ?_) _ _ ?_ ?_
    · skip
      obtain ⟨l18, l19⟩ := I17
      unfold wp_rw_waysBehind_B38
      rw [l18]
      have bb21 := wt_bd (wt_lk2 (20 + 6) (20 + 4) r12.1 σ)
      have bb22 := wt_bd z16.2.1
      refine wt_T_bi (wq_tg_membersLike n hn 20 r12.1 σ) (fun r23 h24 => ?_)
      obtain ⟨e25, e25v⟩ := h24
      have e26 := wt_ceq e25v
      have bb27 := wt_bd r23.1
      rw [e25]
      refine wt_T_if (fun h28 => ?_) (fun h28 => ?_)
      · skip
        have c29 := wt_cle h28
        refine wt_T_some ?_
        exact rfl
      · skip
        have c30 := wt_ncle h28
        refine wt_T_bi (wq_tg_firstLike n hn 20 r12.1 σ) (fun r31 h32 => ?_)
        have e33 := h32
        rw [e33]
        refine wt_T_bi (wq_rw_mayFollow n hn x3 (r31.1 + z16.2.1) σ) (fun r34 h35 => ?_)
        have e36 := h35
        rw [e36]
        have bb37 := wt_bd r34.1
        refine wt_T_if (fun h38 => ?_) (fun h38 => ?_)
        · skip
          have c39 := wt_ceq h38
          unfold wp_rw_waysBehind_B91
          refine hKK15 _ ⟨rfl, (wt_nn (B := wt_lk2 (20 + 6) (20 + 4) r12.1 z16.2.2) (by omega) (by first | (rw [l18]; omega) | (rw [l18]; done) | omega))⟩ ?_
          show ((wt_lk2 (20 + 6) (20 + 4) r12.1 σ).toInt - (z16.2.1 + (1 : Int32)).toInt + 0).toNat < ((wt_lk2 (20 + 6) (20 + 4) r12.1 z16.2.2).toInt - z16.2.1.toInt + 0).toNat
          exact wt_mu (by first | (rw [l18]; omega) | (rw [l18]; done) | omega) (by first | (rw [l18]; omega) | (rw [l18]; done) | omega)
        · skip
          have c40 := wt_nceq h38
          refine wt_T_bi (wq_rw_sumAt n hn x1 (x2 + (1 : Int32)) (r31.1 + z16.2.1) σ) (fun r41 h42 => ?_)
          have e43 := h42
          rw [e43]
          unfold wp_rw_waysBehind_B91
          refine hKK15 _ ⟨rfl, (wt_nn (B := wt_lk2 (20 + 6) (20 + 4) r12.1 z16.2.2) (by omega) (by first | (rw [l18]; omega) | (rw [l18]; done) | omega))⟩ ?_
          show ((wt_lk2 (20 + 6) (20 + 4) r12.1 σ).toInt - (z16.2.1 + (1 : Int32)).toInt + 0).toNat < ((wt_lk2 (20 + 6) (20 + 4) r12.1 z16.2.2).toInt - z16.2.1.toInt + 0).toNat
          exact wt_mu (by first | (rw [l18]; omega) | (rw [l18]; done) | omega) (by first | (rw [l18]; omega) | (rw [l18]; done) | omega)
    · skip
      have bb44 := wt_bd (wt_lk2 (20 + 6) (20 + 4) r12.1 σ)
      exact ⟨rfl, (show 0 ≤ ((0 : Int32)).toInt by omega)⟩
    · skip
      have bb45 := wt_bd (wt_lk2 (20 + 6) (20 + 4) r12.1 σ)
      show ((wt_lk2 (20 + 6) (20 + 4) r12.1 σ).toInt - (0 : Int32).toInt + 0).toNat < n
      omega
  · skip
    have c46 := wt_ncl h10
    refine wt_T_some ?_
    exact rfl
set_option maxRecDepth 100000 in
set_option maxHeartbeats 4000000 in
theorem wq_rw_howMany (n : Nat) (hn : 4294967297 < n) (x1 : Int32) (σ : wt_St) : wt_T (wp_rw_howMany n x1 σ) (fun q => wt_fr (fun i k => False) (fun i => i = 82) σ q.2) := by
  unfold wp_rw_howMany
  refine wt_T_bi (wq_tx_lengthOf n hn x1 σ) (fun r1 h2 => ?_)
  obtain ⟨e3, e3v⟩ := h2
  have e4 := wt_ceq e3v
  have bb5 := wt_bd (wt_lk 36 x1 σ)
  have bb6 := wt_bd r1.1
  rw [e3]
  refine wt_T_it (fun s : Int32 × wt_St => wt_fr (fun i k => False) (fun i => i = 82) σ s.2) (fun s : Int32 × wt_St => (s.1.toInt + 1).toNat) (fun KK7 z8 I9 hKK7 => ?_) _ _ ?_ ?_
  · skip
    have l10 := I9
    unfold wp_rw_howMany_B11
    have bb11 := wt_bd z8.1
    have k12 : (0 : Int32).toInt = 0 := by decide
    refine wt_T_if (fun h13 => ?_) (fun h13 => ?_)
    · skip
      have c14 := wt_clt h13
      refine wt_T_bi (wq_rw_waysBehind n hn x1 (-1 : Int32) (-1 : Int32) z8.2) (fun r15 h16 => ?_)
      have e17 := h16
      rw [e17]
      refine wt_T_some ?_
      exact (wt_fr.tr wt_fr.rf l10 (fun i k h => h.elim) (fun i h => by (try dsimp only at h); exact (by first | exact h | omega)))
    · skip
      have c18 := wt_ncl h13
      refine wt_T_bi (wq_tx_wordAt n hn x1 z8.1 z8.2) (fun r19 h20 => ?_)
      have e21 := h20
      rw [e21]
      refine wt_T_it (fun s : Int32 × wt_St => wt_fr (fun i k => False) (fun i => i = 82) z8.2 s.2 ∧ 0 ≤ (s.1).toInt) (fun s : Int32 × wt_St => ((wt_lk2 (20 + 6) (20 + 4) r19.1 s.2).toInt - s.1.toInt + 0).toNat) (fun KK22 z23 I24 hKK22 => ?_) _ _ ?_ ?_
      · skip
        obtain ⟨l25, l26⟩ := I24
        unfold wp_rw_howMany_B28
        have bb27 := wt_bd (wt_lk2 (20 + 6) (20 + 4) r19.1 z23.2)
        have tt28 : (wt_lk2 (20 + 6) (20 + 4) r19.1 z23.2).toInt = (wt_lk2 (20 + 6) (20 + 4) r19.1 z8.2).toInt := congrArg Int32.toInt (wt_lk2_fr (l25.2 (20 + 6) (by (try dsimp only); omega)) (l25.2 (20 + 4) (by (try dsimp only); omega)))
        have bb29 := wt_bd (wt_lk2 (20 + 6) (20 + 4) r19.1 z8.2)
        have tt30 : (wt_lk2 (20 + 6) (20 + 4) r19.1 z8.2).toInt = (wt_lk2 (20 + 6) (20 + 4) r19.1 σ).toInt := congrArg Int32.toInt (wt_lk2_fr (l10.2 (20 + 6) (by (try dsimp only); omega)) (l10.2 (20 + 4) (by (try dsimp only); omega)))
        have bb31 := wt_bd (wt_lk2 (20 + 6) (20 + 4) r19.1 σ)
        have bb32 := wt_bd z23.1
        refine wt_T_bi (wq_tg_membersLike n hn 20 r19.1 z23.2) (fun r33 h34 => ?_)
        obtain ⟨e35, e35v⟩ := h34
        have e36 := wt_ceq e35v
        have bb37 := wt_bd r33.1
        rw [e35]
        refine wt_T_if (fun h38 => ?_) (fun h38 => ?_)
        · skip
          have c39 := wt_cle h38
          refine hKK7 _ (wt_fr.tr (wt_fr.tr wt_fr.rf l10 (fun i k h => h.elim) (fun i h => by (try dsimp only at h); exact (by first | exact h | omega))) l25 (fun i k h => h.elim) (fun i h => by (try dsimp only at h); exact (by first | exact h | omega))) ?_
          show ((z8.1 + (-1 : Int32)).toInt + 1).toNat < (z8.1.toInt + 1).toNat
          exact wt_md1 (by omega)
        · skip
          have c40 := wt_ncle h38
          refine wt_T_bi (wq_tg_firstLike n hn 20 r19.1 z23.2) (fun r41 h42 => ?_)
          have e43 := h42
          rw [e43]
          refine wt_T_bi (wq_rw_waysBehind n hn x1 z8.1 (r41.1 + z23.1) z23.2) (fun r44 h45 => ?_)
          have e46 := h45
          rw [e46]
          refine wt_T_bi (wq_ap_put n hn 82 ((z8.1 * (5 : Int32)) + z23.1) r44.1 z23.2) (fun r47 h48 => ?_)
          have f49 := h48
          have bb50 := wt_bd (wt_lk2 (20 + 6) (20 + 4) r19.1 r47)
          have tt51 : (wt_lk2 (20 + 6) (20 + 4) r19.1 r47).toInt = (wt_lk2 (20 + 6) (20 + 4) r19.1 z23.2).toInt := congrArg Int32.toInt (wt_lk2_fr (f49.2 (20 + 6) (by (try dsimp only); omega)) (f49.2 (20 + 4) (by (try dsimp only); omega)))
          refine hKK22 _ ⟨(wt_fr.tr (wt_fr.tr wt_fr.rf l25 (fun i k h => h.elim) (fun i h => by (try dsimp only at h); exact (by first | exact h | omega))) f49 (fun i k h => h.elim) (fun i h => by (try dsimp only at h); exact (by first | exact h | omega))), (wt_nn (B := wt_lk2 (20 + 6) (20 + 4) r19.1 z23.2) (by omega) (by omega))⟩ ?_
          show ((wt_lk2 (20 + 6) (20 + 4) r19.1 r47).toInt - (z23.1 + (1 : Int32)).toInt + 0).toNat < ((wt_lk2 (20 + 6) (20 + 4) r19.1 z23.2).toInt - z23.1.toInt + 0).toNat
          exact wt_mu (by omega) (by omega)
      · skip
        have bb52 := wt_bd (wt_lk2 (20 + 6) (20 + 4) r19.1 z8.2)
        have tt53 : (wt_lk2 (20 + 6) (20 + 4) r19.1 z8.2).toInt = (wt_lk2 (20 + 6) (20 + 4) r19.1 σ).toInt := congrArg Int32.toInt (wt_lk2_fr (l10.2 (20 + 6) (by (try dsimp only); omega)) (l10.2 (20 + 4) (by (try dsimp only); omega)))
        have bb54 := wt_bd (wt_lk2 (20 + 6) (20 + 4) r19.1 σ)
        exact ⟨wt_fr.rf, (show 0 ≤ ((0 : Int32)).toInt by omega)⟩
      · skip
        have bb55 := wt_bd (wt_lk2 (20 + 6) (20 + 4) r19.1 z8.2)
        have tt56 : (wt_lk2 (20 + 6) (20 + 4) r19.1 z8.2).toInt = (wt_lk2 (20 + 6) (20 + 4) r19.1 σ).toInt := congrArg Int32.toInt (wt_lk2_fr (l10.2 (20 + 6) (by (try dsimp only); omega)) (l10.2 (20 + 4) (by (try dsimp only); omega)))
        have bb57 := wt_bd (wt_lk2 (20 + 6) (20 + 4) r19.1 σ)
        show ((wt_lk2 (20 + 6) (20 + 4) r19.1 z8.2).toInt - (0 : Int32).toInt + 0).toNat < n
        omega
  · skip
    have k58 : (1 : Int32).toInt = 1 := by decide
    obtain ⟨j59, j59a, j59b⟩ := wt_subI r1.1 (1 : Int32)
    exact wt_fr.rf
  · skip
    have k60 : (1 : Int32).toInt = 1 := by decide
    obtain ⟨j61, j61a, j61b⟩ := wt_subI r1.1 (1 : Int32)
    show ((r1.1 - (1 : Int32)).toInt + 1).toNat < n
    omega
set_option maxRecDepth 100000 in
set_option maxHeartbeats 4000000 in
theorem wq_ap_miss (n : Nat) (hn : 4294967297 < n) (x0 : Int32) (σ : wt_St) : wt_T (wp_ap_miss n x0 σ) (fun q => q.2.2 = σ ∧ (q.1 = 0 ∨ q.1 = 2)) := by
  unfold wp_ap_miss
  have bb1 := wt_bd x0
  have k2 : (0 : Int32).toInt = 0 := by decide
  refine wt_T_if (fun h3 => ?_) (fun h3 => ?_)
  · skip
    have c4 := wt_ceq h3
    refine wt_T_some ?_
    exact ⟨rfl, Or.inl rfl⟩
  · skip
    have c5 := wt_nceq h3
    refine wt_T_some ?_
    exact ⟨rfl, Or.inr (rfl)⟩
set_option maxRecDepth 100000 in
set_option maxHeartbeats 4000000 in
theorem wq_ap_apart (n : Nat) (hn : 4294967297 < n) (x1 : Int32) (σ : wt_St) : wt_T (wp_ap_apart n x1 σ) (fun q => wt_fr (fun i k => False) (fun i => i = 43 ∨ i = 41) σ q.2.2 ∧ (q.1 = 0 ∨ q.1 = 2)) := by
  unfold wp_ap_apart
  refine wt_T_bi (wq_pg_stands n hn x1 σ) (fun r1 h2 => ?_)
  have e3 := h2
  rw [e3]
  have bb4 := wt_bd r1.1
  have k5 : (0 : Int32).toInt = 0 := by decide
  refine wt_T_if (fun h6 => ?_) (fun h6 => ?_)
  · skip
    have c7 := wt_ceq h6
    unfold wp_ap_apart_B16
    refine wt_T_bi (wq_ap_miss n hn (1 : Int32) σ) (fun r8 h9 => ?_)
    obtain ⟨e10, xx11⟩ := h9
    rw [e10]
    refine wt_T_if (fun h12 => ?_) (fun h12 => ?_)
    · skip
      refine wt_T_bi (wq_pg_piecesOn n hn x1 σ) (fun r13 h14 => ?_)
      have e15 := h14
      rw [e15]
      refine wt_T_bi (wq_st_clearPage n hn 39 x1 σ) (fun r16 h17 => ?_)
      have f18 := h17
      refine wt_T_some ?_
      exact ⟨(wt_fr.tr wt_fr.rf f18 (fun i k h => h.elim) (fun i h => by (try dsimp only at h); rcases h with h | h; exact Or.inl (by first | exact h | omega); exact Or.inr (by first | exact h | omega))), Or.inl rfl⟩
    · skip
      refine wt_T_some ?_
      exact ⟨wt_fr.rf, (by (try dsimp only); omega)⟩
  · skip
    have c19 := wt_nceq h6
    unfold wp_ap_apart_B16
    refine wt_T_bi (wq_ap_miss n hn (0 : Int32) σ) (fun r20 h21 => ?_)
    obtain ⟨e22, xx23⟩ := h21
    rw [e22]
    refine wt_T_if (fun h24 => ?_) (fun h24 => ?_)
    · skip
      refine wt_T_bi (wq_pg_piecesOn n hn x1 σ) (fun r25 h26 => ?_)
      have e27 := h26
      rw [e27]
      refine wt_T_bi (wq_st_clearPage n hn 39 x1 σ) (fun r28 h29 => ?_)
      have f30 := h29
      refine wt_T_some ?_
      exact ⟨(wt_fr.tr wt_fr.rf f30 (fun i k h => h.elim) (fun i h => by (try dsimp only at h); rcases h with h | h; exact Or.inl (by first | exact h | omega); exact Or.inr (by first | exact h | omega))), Or.inl rfl⟩
    · skip
      refine wt_T_some ?_
      exact ⟨wt_fr.rf, (by (try dsimp only); omega)⟩
set_option maxRecDepth 100000 in
set_option maxHeartbeats 4000000 in
theorem wq_ap_at (n : Nat) (hn : 4294967297 < n) (x1 : Int32) (x2 : Int32) (σ : wt_St) : wt_T (wp_ap_at n x1 x2 σ) (fun q => q.2.2 = σ ∧ (q.1 = 0 ∨ q.1 = 2)) := by
  unfold wp_ap_at
  refine wt_T_bi (wq_tx_has n hn x1 σ) (fun r1 h2 => ?_)
  have e3 := h2
  rw [e3]
  have bb4 := wt_bd r1.1
  have k5 : (0 : Int32).toInt = 0 := by decide
  refine wt_T_if (fun h6 => ?_) (fun h6 => ?_)
  · skip
    have c7 := wt_ceq h6
    unfold wp_ap_at_B16
    refine wt_T_bi (wq_ap_miss n hn (1 : Int32) σ) (fun r8 h9 => ?_)
    obtain ⟨e10, xx11⟩ := h9
    rw [e10]
    refine wt_T_if (fun h12 => ?_) (fun h12 => ?_)
    · skip
      refine wt_T_bi (wq_tx_wordAt n hn x1 x2 σ) (fun r13 h14 => ?_)
      have e15 := h14
      rw [e15]
      refine wt_T_some ?_
      exact ⟨rfl, Or.inl rfl⟩
    · skip
      refine wt_T_some ?_
      exact ⟨rfl, (by (try dsimp only); omega)⟩
  · skip
    have c16 := wt_nceq h6
    unfold wp_ap_at_B16
    refine wt_T_bi (wq_ap_miss n hn (0 : Int32) σ) (fun r17 h18 => ?_)
    obtain ⟨e19, xx20⟩ := h18
    rw [e19]
    refine wt_T_if (fun h21 => ?_) (fun h21 => ?_)
    · skip
      refine wt_T_bi (wq_tx_wordAt n hn x1 x2 σ) (fun r22 h23 => ?_)
      have e24 := h23
      rw [e24]
      refine wt_T_some ?_
      exact ⟨rfl, Or.inl rfl⟩
    · skip
      refine wt_T_some ?_
      exact ⟨rfl, (by (try dsimp only); omega)⟩
set_option maxRecDepth 100000 in
set_option maxHeartbeats 4000000 in
theorem wq_ap_can (n : Nat) (hn : 4294967297 < n) (x1 : Int32) (σ : wt_St) : wt_T (wp_ap_can n x1 σ) (fun q => wt_fr (fun i k => False) (fun i => i = 107) σ q.2.2 ∧ (q.1 = 0 ∨ q.1 = 2)) := by
  unfold wp_ap_can
  refine wt_T_bi (wq_tx_has n hn x1 σ) (fun r1 h2 => ?_)
  have e3 := h2
  rw [e3]
  have bb4 := wt_bd r1.1
  have k5 : (0 : Int32).toInt = 0 := by decide
  refine wt_T_if (fun h6 => ?_) (fun h6 => ?_)
  · skip
    have c7 := wt_ceq h6
    unfold wp_ap_can_B16
    refine wt_T_bi (wq_ap_miss n hn (1 : Int32) σ) (fun r8 h9 => ?_)
    obtain ⟨e10, xx11⟩ := h9
    rw [e10]
    refine wt_T_if (fun h12 => ?_) (fun h12 => ?_)
    · skip
      refine wt_T_bi (wq_tx_spell n hn 107 x1 σ) (fun r13 h14 => ?_)
      have f15 := h14
      refine wt_T_bi (wq_sk_often n hn 107 40 r13) (fun r16 h17 => ?_)
      have e18 := h17
      rw [e18]
      refine wt_T_some ?_
      exact ⟨(wt_fr.tr wt_fr.rf f15 (fun i k h => h.elim) (fun i h => by (try dsimp only at h); exact (by first | exact h | omega))), Or.inl rfl⟩
    · skip
      refine wt_T_some ?_
      exact ⟨wt_fr.rf, (by (try dsimp only); omega)⟩
  · skip
    have c19 := wt_nceq h6
    unfold wp_ap_can_B16
    refine wt_T_bi (wq_ap_miss n hn (0 : Int32) σ) (fun r20 h21 => ?_)
    obtain ⟨e22, xx23⟩ := h21
    rw [e22]
    refine wt_T_if (fun h24 => ?_) (fun h24 => ?_)
    · skip
      refine wt_T_bi (wq_tx_spell n hn 107 x1 σ) (fun r25 h26 => ?_)
      have f27 := h26
      refine wt_T_bi (wq_sk_often n hn 107 40 r25) (fun r28 h29 => ?_)
      have e30 := h29
      rw [e30]
      refine wt_T_some ?_
      exact ⟨(wt_fr.tr wt_fr.rf f27 (fun i k h => h.elim) (fun i h => by (try dsimp only at h); exact (by first | exact h | omega))), Or.inl rfl⟩
    · skip
      refine wt_T_some ?_
      exact ⟨wt_fr.rf, (by (try dsimp only); omega)⟩
set_option maxRecDepth 100000 in
set_option maxHeartbeats 4000000 in
theorem wq_ap_refuse (n : Nat) (hn : 4294967297 < n) (x0 : Int32) (σ : wt_St) : wt_T (wp_ap_refuse n x0 σ) (fun q => q.2.2 = σ ∧ (q.1 = 0 ∨ q.1 = 1) ∧ (x0.toInt = 0 → q.1 = 0) ∧ (x0.toInt ≠ 0 → q.1 = 1)) := by
  unfold wp_ap_refuse
  have bb1 := wt_bd x0
  have k2 : (0 : Int32).toInt = 0 := by decide
  refine wt_T_if (fun h3 => ?_) (fun h3 => ?_)
  · skip
    have c4 := wt_ceq h3
    refine wt_T_some ?_
    exact ⟨rfl, Or.inl rfl, (show (x0.toInt = 0 → 0 = 0) ∧ (x0.toInt ≠ 0 → 0 = 1) by omega)⟩
  · skip
    have c5 := wt_nceq h3
    refine wt_T_some ?_
    exact ⟨rfl, Or.inr (rfl), (show (x0.toInt = 0 → 1 = 0) ∧ (x0.toInt ≠ 0 → 1 = 1) by omega)⟩
set_option maxRecDepth 100000 in
set_option maxHeartbeats 4000000 in
theorem wq_ap_refuseCopies (n : Nat) (hn : 4294967297 < n) (x0 : Int32) (σ : wt_St) : wt_T (wp_ap_refuseCopies n x0 σ) (fun q => q.2.2 = σ ∧ (q.1 = 0 ∨ q.1 = 1)) := by
  unfold wp_ap_refuseCopies
  have bb1 := wt_bd x0
  have k2 : (1 : Int32).toInt = 1 := by decide
  refine wt_T_if (fun h3 => ?_) (fun h3 => ?_)
  · skip
    have c4 := wt_clt h3
    unfold wp_ap_refuseCopies_B12
    unfold wp_ap_refuseCopies_B17
    refine wt_T_bi (wq_ap_refuse n hn (1 : Int32) σ) (fun r5 h6 => ?_)
    obtain ⟨e7, pp8⟩ := h6
    rw [e7]
    refine wt_T_if (fun h9 => ?_) (fun h9 => ?_)
    · skip
      refine wt_T_some ?_
      exact ⟨rfl, Or.inl rfl⟩
    · skip
      refine wt_T_some ?_
      exact ⟨rfl, (by (try dsimp only); omega)⟩
  · skip
    have c10 := wt_ncl h3
    have k11 : (400 : Int32).toInt = 400 := by decide
    refine wt_T_if (fun h12 => ?_) (fun h12 => ?_)
    · skip
      have c13 := wt_cle h12
      unfold wp_ap_refuseCopies_B17
      refine wt_T_bi (wq_ap_refuse n hn (0 : Int32) σ) (fun r14 h15 => ?_)
      obtain ⟨e16, pp17⟩ := h15
      rw [e16]
      refine wt_T_if (fun h18 => ?_) (fun h18 => ?_)
      · skip
        refine wt_T_some ?_
        exact ⟨rfl, Or.inl rfl⟩
      · skip
        refine wt_T_some ?_
        exact ⟨rfl, (by (try dsimp only); omega)⟩
    · skip
      have c19 := wt_ncle h12
      unfold wp_ap_refuseCopies_B12
      unfold wp_ap_refuseCopies_B17
      refine wt_T_bi (wq_ap_refuse n hn (1 : Int32) σ) (fun r20 h21 => ?_)
      obtain ⟨e22, pp23⟩ := h21
      rw [e22]
      refine wt_T_if (fun h24 => ?_) (fun h24 => ?_)
      · skip
        refine wt_T_some ?_
        exact ⟨rfl, Or.inl rfl⟩
      · skip
        refine wt_T_some ?_
        exact ⟨rfl, (by (try dsimp only); omega)⟩
set_option maxRecDepth 100000 in
set_option maxHeartbeats 4000000 in
theorem wq_ap_cast (n : Nat) (hn : 4294967297 < n) (x1 : Int32) (x2 : Int32) (σ : wt_St) : wt_T (wp_ap_cast n x1 x2 σ) (fun q => wt_fr (fun i k => False) (fun i => i = 102 ∨ i = 103 ∨ i = 104 ∨ i = 105) σ q.2.2 ∧ (q.1 = 0 ∨ q.1 = 1 ∨ q.1 = 2)) := by
  unfold wp_ap_cast
  refine wt_T_bi (wq_tx_has n hn x1 σ) (fun r1 h2 => ?_)
  have e3 := h2
  rw [e3]
  have bb4 := wt_bd r1.1
  have k5 : (0 : Int32).toInt = 0 := by decide
  refine wt_T_if (fun h6 => ?_) (fun h6 => ?_)
  · skip
    have c7 := wt_ceq h6
    unfold wp_ap_cast_B16
    refine wt_T_bi (wq_ap_miss n hn (1 : Int32) σ) (fun r8 h9 => ?_)
    obtain ⟨e10, xx11⟩ := h9
    rw [e10]
    refine wt_T_if (fun h12 => ?_) (fun h12 => ?_)
    · skip
      refine wt_T_bi (wq_ap_refuseCopies n hn x2 σ) (fun r13 h14 => ?_)
      obtain ⟨e15, xx16⟩ := h14
      rw [e15]
      refine wt_T_if (fun h17 => ?_) (fun h17 => ?_)
      · skip
        refine wt_T_bi (wq_tr_bestCast n hn x1 x2 σ) (fun r18 h19 => ?_)
        have f20 := h19
        refine wt_T_some ?_
        exact ⟨(wt_fr.tr wt_fr.rf f20 (fun i k h => h.elim) (fun i h => by (try dsimp only at h); rcases h with h | h | h | h; exact Or.inl (by first | exact h | omega); exact Or.inr (Or.inl (by first | exact h | omega)); exact Or.inr (Or.inr (Or.inl (by first | exact h | omega))); exact Or.inr (Or.inr (Or.inr (by first | exact h | omega))))), Or.inl rfl⟩
      · skip
        refine wt_T_some ?_
        exact ⟨wt_fr.rf, (by (try dsimp only); omega)⟩
    · skip
      refine wt_T_some ?_
      exact ⟨wt_fr.rf, (by (try dsimp only); omega)⟩
  · skip
    have c21 := wt_nceq h6
    unfold wp_ap_cast_B16
    refine wt_T_bi (wq_ap_miss n hn (0 : Int32) σ) (fun r22 h23 => ?_)
    obtain ⟨e24, xx25⟩ := h23
    rw [e24]
    refine wt_T_if (fun h26 => ?_) (fun h26 => ?_)
    · skip
      refine wt_T_bi (wq_ap_refuseCopies n hn x2 σ) (fun r27 h28 => ?_)
      obtain ⟨e29, xx30⟩ := h28
      rw [e29]
      refine wt_T_if (fun h31 => ?_) (fun h31 => ?_)
      · skip
        refine wt_T_bi (wq_tr_bestCast n hn x1 x2 σ) (fun r32 h33 => ?_)
        have f34 := h33
        refine wt_T_some ?_
        exact ⟨(wt_fr.tr wt_fr.rf f34 (fun i k h => h.elim) (fun i h => by (try dsimp only at h); rcases h with h | h | h | h; exact Or.inl (by first | exact h | omega); exact Or.inr (Or.inl (by first | exact h | omega)); exact Or.inr (Or.inr (Or.inl (by first | exact h | omega))); exact Or.inr (Or.inr (Or.inr (by first | exact h | omega))))), Or.inl rfl⟩
      · skip
        refine wt_T_some ?_
        exact ⟨wt_fr.rf, (by (try dsimp only); omega)⟩
    · skip
      refine wt_T_some ?_
      exact ⟨wt_fr.rf, (by (try dsimp only); omega)⟩
set_option maxRecDepth 100000 in
set_option maxHeartbeats 4000000 in
theorem wq_ap_ends (n : Nat) (hn : 4294967297 < n) (x1 : Int32) (σ : wt_St) : wt_T (wp_ap_ends n x1 σ) (fun q => wt_fr (fun i k => (i = 86 ∧ k = 8) ∨ (i = 86 ∧ k = 9)) (fun i => i = 99 ∨ i = 98 ∨ i = 100) σ q.2.2 ∧ (q.1 = 0 ∨ q.1 = 2)) := by
  unfold wp_ap_ends
  refine wt_T_bi (wq_tg_has n hn 20 x1 σ) (fun r1 h2 => ?_)
  have e3 := h2
  rw [e3]
  have bb4 := wt_bd r1.1
  have k5 : (0 : Int32).toInt = 0 := by decide
  refine wt_T_if (fun h6 => ?_) (fun h6 => ?_)
  · skip
    have c7 := wt_ceq h6
    unfold wp_ap_ends_B16
    refine wt_T_bi (wq_ap_miss n hn (1 : Int32) σ) (fun r8 h9 => ?_)
    obtain ⟨e10, xx11⟩ := h9
    rw [e10]
    refine wt_T_if (fun h12 => ?_) (fun h12 => ?_)
    · skip
      refine wt_T_bi (wq_wk_firstLost n hn x1 σ) (fun r13 h14 => ?_)
      have f15 := h14
      refine wt_T_some ?_
      exact ⟨(wt_fr.tr wt_fr.rf f15 (fun i k h => by (try dsimp only at h); rcases h with h | h; exact Or.inl (by first | exact h | omega); exact Or.inr (by first | exact h | omega)) (fun i h => by (try dsimp only at h); rcases h with h | h | h; exact Or.inl (by first | exact h | omega); exact Or.inr (Or.inl (by first | exact h | omega)); exact Or.inr (Or.inr (by first | exact h | omega)))), Or.inl rfl⟩
    · skip
      refine wt_T_some ?_
      exact ⟨wt_fr.rf, (by (try dsimp only); omega)⟩
  · skip
    have c16 := wt_nceq h6
    unfold wp_ap_ends_B16
    refine wt_T_bi (wq_ap_miss n hn (0 : Int32) σ) (fun r17 h18 => ?_)
    obtain ⟨e19, xx20⟩ := h18
    rw [e19]
    refine wt_T_if (fun h21 => ?_) (fun h21 => ?_)
    · skip
      refine wt_T_bi (wq_wk_firstLost n hn x1 σ) (fun r22 h23 => ?_)
      have f24 := h23
      refine wt_T_some ?_
      exact ⟨(wt_fr.tr wt_fr.rf f24 (fun i k h => by (try dsimp only at h); rcases h with h | h; exact Or.inl (by first | exact h | omega); exact Or.inr (by first | exact h | omega)) (fun i h => by (try dsimp only at h); rcases h with h | h | h; exact Or.inl (by first | exact h | omega); exact Or.inr (Or.inl (by first | exact h | omega)); exact Or.inr (Or.inr (by first | exact h | omega)))), Or.inl rfl⟩
    · skip
      refine wt_T_some ?_
      exact ⟨wt_fr.rf, (by (try dsimp only); omega)⟩
set_option maxRecDepth 100000 in
set_option maxHeartbeats 4000000 in
theorem wq_ap_exchange (n : Nat) (hn : 4294967297 < n) (x1 : Int32) (σ : wt_St) : wt_T (wp_ap_exchange n x1 σ) (fun q => wt_fr (fun i k => False) (fun i => i = 102 ∨ i = 103 ∨ i = 104 ∨ i = 105) σ q.2.2 ∧ (q.1 = 0 ∨ q.1 = 2)) := by
  unfold wp_ap_exchange
  refine wt_T_bi (wq_tx_has n hn x1 σ) (fun r1 h2 => ?_)
  have e3 := h2
  rw [e3]
  have bb4 := wt_bd r1.1
  have k5 : (0 : Int32).toInt = 0 := by decide
  refine wt_T_if (fun h6 => ?_) (fun h6 => ?_)
  · skip
    have c7 := wt_ceq h6
    unfold wp_ap_exchange_B16
    refine wt_T_bi (wq_ap_miss n hn (1 : Int32) σ) (fun r8 h9 => ?_)
    obtain ⟨e10, xx11⟩ := h9
    rw [e10]
    refine wt_T_if (fun h12 => ?_) (fun h12 => ?_)
    · skip
      refine wt_T_bi (wq_tr_bestExchange n hn x1 σ) (fun r13 h14 => ?_)
      have f15 := h14
      refine wt_T_some ?_
      exact ⟨(wt_fr.tr wt_fr.rf f15 (fun i k h => h.elim) (fun i h => by (try dsimp only at h); rcases h with h | h | h | h; exact Or.inl (by first | exact h | omega); exact Or.inr (Or.inl (by first | exact h | omega)); exact Or.inr (Or.inr (Or.inl (by first | exact h | omega))); exact Or.inr (Or.inr (Or.inr (by first | exact h | omega))))), Or.inl rfl⟩
    · skip
      refine wt_T_some ?_
      exact ⟨wt_fr.rf, (by (try dsimp only); omega)⟩
  · skip
    have c16 := wt_nceq h6
    unfold wp_ap_exchange_B16
    refine wt_T_bi (wq_ap_miss n hn (0 : Int32) σ) (fun r17 h18 => ?_)
    obtain ⟨e19, xx20⟩ := h18
    rw [e19]
    refine wt_T_if (fun h21 => ?_) (fun h21 => ?_)
    · skip
      refine wt_T_bi (wq_tr_bestExchange n hn x1 σ) (fun r22 h23 => ?_)
      have f24 := h23
      refine wt_T_some ?_
      exact ⟨(wt_fr.tr wt_fr.rf f24 (fun i k h => h.elim) (fun i h => by (try dsimp only at h); rcases h with h | h | h | h; exact Or.inl (by first | exact h | omega); exact Or.inr (Or.inl (by first | exact h | omega)); exact Or.inr (Or.inr (Or.inl (by first | exact h | omega))); exact Or.inr (Or.inr (Or.inr (by first | exact h | omega))))), Or.inl rfl⟩
    · skip
      refine wt_T_some ?_
      exact ⟨wt_fr.rf, (by (try dsimp only); omega)⟩
set_option maxRecDepth 100000 in
set_option maxHeartbeats 4000000 in
theorem wq_ap_fitting (n : Nat) (hn : 4294967297 < n) (x1 : Int32) (x2 : Int32) (x3 : Int32) (x4 : Int32) (σ : wt_St) : wt_T (wp_ap_fitting n x1 x2 x3 x4 σ) (fun q => wt_fr (fun i k => (i = 81 ∧ k = 9)) (fun i => i = 85 ∨ i = 83 ∨ i = 84) σ q.2.2 ∧ (q.1 = 0 ∨ q.1 = 1 ∨ q.1 = 2)) := by
  unfold wp_ap_fitting
  refine wt_T_bi (wq_tx_has n hn x1 σ) (fun r1 h2 => ?_)
  have e3 := h2
  rw [e3]
  have bb4 := wt_bd r1.1
  have k5 : (0 : Int32).toInt = 0 := by decide
  refine wt_T_if (fun h6 => ?_) (fun h6 => ?_)
  · skip
    have c7 := wt_ceq h6
    unfold wp_ap_fitting_B16
    refine wt_T_bi (wq_ap_miss n hn (1 : Int32) σ) (fun r8 h9 => ?_)
    obtain ⟨e10, xx11⟩ := h9
    rw [e10]
    refine wt_T_if (fun h12 => ?_) (fun h12 => ?_)
    · skip
      refine wt_T_bi (wq_ap_refuseCopies n hn x2 σ) (fun r13 h14 => ?_)
      obtain ⟨e15, xx16⟩ := h14
      rw [e15]
      refine wt_T_if (fun h17 => ?_) (fun h17 => ?_)
      · skip
        have bb18 := wt_bd x4
        refine wt_T_if (fun h19 => ?_) (fun h19 => ?_)
        · skip
          have c20 := wt_clt h19
          unfold wp_ap_fitting_B34
          unfold wp_ap_fitting_B39
          refine wt_T_bi (wq_ap_refuse n hn (1 : Int32) σ) (fun r21 h22 => ?_)
          obtain ⟨e23, pp24⟩ := h22
          rw [e23]
          refine wt_T_if (fun h25 => ?_) (fun h25 => ?_)
          · skip
            refine wt_T_bi (wq_rw_tooMany n hn x1 σ) (fun r26 h27 => ?_)
            have e28 := h27
            rw [e28]
            have bb29 := wt_bd r26.1
            refine wt_T_if (fun h30 => ?_) (fun h30 => ?_)
            · skip
              have c31 := wt_ceq h30
              refine wt_T_bi (wq_rw_findFitting n hn x1 x2 σ) (fun r32 h33 => ?_)
              have f34 := h33
              refine wt_T_bi (wq_rw_found n hn x1 x3 x4 r32) (fun r35 h36 => ?_)
              have e37 := h36
              rw [e37]
              refine wt_T_some ?_
              exact ⟨(wt_fr.tr wt_fr.rf f34 (fun i k h => by (try dsimp only at h); exact (by first | exact h | omega)) (fun i h => by (try dsimp only at h); rcases h with h | h | h; exact Or.inl (by first | exact h | omega); exact Or.inr (Or.inl (by first | exact h | omega)); exact Or.inr (Or.inr (by first | exact h | omega)))), Or.inl rfl⟩
            · skip
              have c38 := wt_nceq h30
              refine wt_T_some ?_
              exact ⟨wt_fr.rf, Or.inl rfl⟩
          · skip
            refine wt_T_some ?_
            exact ⟨wt_fr.rf, (by (try dsimp only); omega)⟩
        · skip
          have c39 := wt_ncl h19
          have k40 : (1 : Int32).toInt = 1 := by decide
          refine wt_T_if (fun h41 => ?_) (fun h41 => ?_)
          · skip
            have c42 := wt_cle h41
            unfold wp_ap_fitting_B39
            refine wt_T_bi (wq_ap_refuse n hn (0 : Int32) σ) (fun r43 h44 => ?_)
            obtain ⟨e45, pp46⟩ := h44
            rw [e45]
            refine wt_T_if (fun h47 => ?_) (fun h47 => ?_)
            · skip
              refine wt_T_bi (wq_rw_tooMany n hn x1 σ) (fun r48 h49 => ?_)
              have e50 := h49
              rw [e50]
              have bb51 := wt_bd r48.1
              refine wt_T_if (fun h52 => ?_) (fun h52 => ?_)
              · skip
                have c53 := wt_ceq h52
                refine wt_T_bi (wq_rw_findFitting n hn x1 x2 σ) (fun r54 h55 => ?_)
                have f56 := h55
                refine wt_T_bi (wq_rw_found n hn x1 x3 x4 r54) (fun r57 h58 => ?_)
                have e59 := h58
                rw [e59]
                refine wt_T_some ?_
                exact ⟨(wt_fr.tr wt_fr.rf f56 (fun i k h => by (try dsimp only at h); exact (by first | exact h | omega)) (fun i h => by (try dsimp only at h); rcases h with h | h | h; exact Or.inl (by first | exact h | omega); exact Or.inr (Or.inl (by first | exact h | omega)); exact Or.inr (Or.inr (by first | exact h | omega)))), Or.inl rfl⟩
              · skip
                have c60 := wt_nceq h52
                refine wt_T_some ?_
                exact ⟨wt_fr.rf, Or.inl rfl⟩
            · skip
              refine wt_T_some ?_
              exact ⟨wt_fr.rf, (by (try dsimp only); omega)⟩
          · skip
            have c61 := wt_ncle h41
            unfold wp_ap_fitting_B34
            unfold wp_ap_fitting_B39
            refine wt_T_bi (wq_ap_refuse n hn (1 : Int32) σ) (fun r62 h63 => ?_)
            obtain ⟨e64, pp65⟩ := h63
            rw [e64]
            refine wt_T_if (fun h66 => ?_) (fun h66 => ?_)
            · skip
              refine wt_T_bi (wq_rw_tooMany n hn x1 σ) (fun r67 h68 => ?_)
              have e69 := h68
              rw [e69]
              have bb70 := wt_bd r67.1
              refine wt_T_if (fun h71 => ?_) (fun h71 => ?_)
              · skip
                have c72 := wt_ceq h71
                refine wt_T_bi (wq_rw_findFitting n hn x1 x2 σ) (fun r73 h74 => ?_)
                have f75 := h74
                refine wt_T_bi (wq_rw_found n hn x1 x3 x4 r73) (fun r76 h77 => ?_)
                have e78 := h77
                rw [e78]
                refine wt_T_some ?_
                exact ⟨(wt_fr.tr wt_fr.rf f75 (fun i k h => by (try dsimp only at h); exact (by first | exact h | omega)) (fun i h => by (try dsimp only at h); rcases h with h | h | h; exact Or.inl (by first | exact h | omega); exact Or.inr (Or.inl (by first | exact h | omega)); exact Or.inr (Or.inr (by first | exact h | omega)))), Or.inl rfl⟩
              · skip
                have c79 := wt_nceq h71
                refine wt_T_some ?_
                exact ⟨wt_fr.rf, Or.inl rfl⟩
            · skip
              refine wt_T_some ?_
              exact ⟨wt_fr.rf, (by (try dsimp only); omega)⟩
      · skip
        refine wt_T_some ?_
        exact ⟨wt_fr.rf, (by (try dsimp only); omega)⟩
    · skip
      refine wt_T_some ?_
      exact ⟨wt_fr.rf, (by (try dsimp only); omega)⟩
  · skip
    have c80 := wt_nceq h6
    unfold wp_ap_fitting_B16
    refine wt_T_bi (wq_ap_miss n hn (0 : Int32) σ) (fun r81 h82 => ?_)
    obtain ⟨e83, xx84⟩ := h82
    rw [e83]
    refine wt_T_if (fun h85 => ?_) (fun h85 => ?_)
    · skip
      refine wt_T_bi (wq_ap_refuseCopies n hn x2 σ) (fun r86 h87 => ?_)
      obtain ⟨e88, xx89⟩ := h87
      rw [e88]
      refine wt_T_if (fun h90 => ?_) (fun h90 => ?_)
      · skip
        have bb91 := wt_bd x4
        refine wt_T_if (fun h92 => ?_) (fun h92 => ?_)
        · skip
          have c93 := wt_clt h92
          unfold wp_ap_fitting_B34
          unfold wp_ap_fitting_B39
          refine wt_T_bi (wq_ap_refuse n hn (1 : Int32) σ) (fun r94 h95 => ?_)
          obtain ⟨e96, pp97⟩ := h95
          rw [e96]
          refine wt_T_if (fun h98 => ?_) (fun h98 => ?_)
          · skip
            refine wt_T_bi (wq_rw_tooMany n hn x1 σ) (fun r99 h100 => ?_)
            have e101 := h100
            rw [e101]
            have bb102 := wt_bd r99.1
            refine wt_T_if (fun h103 => ?_) (fun h103 => ?_)
            · skip
              have c104 := wt_ceq h103
              refine wt_T_bi (wq_rw_findFitting n hn x1 x2 σ) (fun r105 h106 => ?_)
              have f107 := h106
              refine wt_T_bi (wq_rw_found n hn x1 x3 x4 r105) (fun r108 h109 => ?_)
              have e110 := h109
              rw [e110]
              refine wt_T_some ?_
              exact ⟨(wt_fr.tr wt_fr.rf f107 (fun i k h => by (try dsimp only at h); exact (by first | exact h | omega)) (fun i h => by (try dsimp only at h); rcases h with h | h | h; exact Or.inl (by first | exact h | omega); exact Or.inr (Or.inl (by first | exact h | omega)); exact Or.inr (Or.inr (by first | exact h | omega)))), Or.inl rfl⟩
            · skip
              have c111 := wt_nceq h103
              refine wt_T_some ?_
              exact ⟨wt_fr.rf, Or.inl rfl⟩
          · skip
            refine wt_T_some ?_
            exact ⟨wt_fr.rf, (by (try dsimp only); omega)⟩
        · skip
          have c112 := wt_ncl h92
          have k113 : (1 : Int32).toInt = 1 := by decide
          refine wt_T_if (fun h114 => ?_) (fun h114 => ?_)
          · skip
            have c115 := wt_cle h114
            unfold wp_ap_fitting_B39
            refine wt_T_bi (wq_ap_refuse n hn (0 : Int32) σ) (fun r116 h117 => ?_)
            obtain ⟨e118, pp119⟩ := h117
            rw [e118]
            refine wt_T_if (fun h120 => ?_) (fun h120 => ?_)
            · skip
              refine wt_T_bi (wq_rw_tooMany n hn x1 σ) (fun r121 h122 => ?_)
              have e123 := h122
              rw [e123]
              have bb124 := wt_bd r121.1
              refine wt_T_if (fun h125 => ?_) (fun h125 => ?_)
              · skip
                have c126 := wt_ceq h125
                refine wt_T_bi (wq_rw_findFitting n hn x1 x2 σ) (fun r127 h128 => ?_)
                have f129 := h128
                refine wt_T_bi (wq_rw_found n hn x1 x3 x4 r127) (fun r130 h131 => ?_)
                have e132 := h131
                rw [e132]
                refine wt_T_some ?_
                exact ⟨(wt_fr.tr wt_fr.rf f129 (fun i k h => by (try dsimp only at h); exact (by first | exact h | omega)) (fun i h => by (try dsimp only at h); rcases h with h | h | h; exact Or.inl (by first | exact h | omega); exact Or.inr (Or.inl (by first | exact h | omega)); exact Or.inr (Or.inr (by first | exact h | omega)))), Or.inl rfl⟩
              · skip
                have c133 := wt_nceq h125
                refine wt_T_some ?_
                exact ⟨wt_fr.rf, Or.inl rfl⟩
            · skip
              refine wt_T_some ?_
              exact ⟨wt_fr.rf, (by (try dsimp only); omega)⟩
          · skip
            have c134 := wt_ncle h114
            unfold wp_ap_fitting_B34
            unfold wp_ap_fitting_B39
            refine wt_T_bi (wq_ap_refuse n hn (1 : Int32) σ) (fun r135 h136 => ?_)
            obtain ⟨e137, pp138⟩ := h136
            rw [e137]
            refine wt_T_if (fun h139 => ?_) (fun h139 => ?_)
            · skip
              refine wt_T_bi (wq_rw_tooMany n hn x1 σ) (fun r140 h141 => ?_)
              have e142 := h141
              rw [e142]
              have bb143 := wt_bd r140.1
              refine wt_T_if (fun h144 => ?_) (fun h144 => ?_)
              · skip
                have c145 := wt_ceq h144
                refine wt_T_bi (wq_rw_findFitting n hn x1 x2 σ) (fun r146 h147 => ?_)
                have f148 := h147
                refine wt_T_bi (wq_rw_found n hn x1 x3 x4 r146) (fun r149 h150 => ?_)
                have e151 := h150
                rw [e151]
                refine wt_T_some ?_
                exact ⟨(wt_fr.tr wt_fr.rf f148 (fun i k h => by (try dsimp only at h); exact (by first | exact h | omega)) (fun i h => by (try dsimp only at h); rcases h with h | h | h; exact Or.inl (by first | exact h | omega); exact Or.inr (Or.inl (by first | exact h | omega)); exact Or.inr (Or.inr (by first | exact h | omega)))), Or.inl rfl⟩
              · skip
                have c152 := wt_nceq h144
                refine wt_T_some ?_
                exact ⟨wt_fr.rf, Or.inl rfl⟩
            · skip
              refine wt_T_some ?_
              exact ⟨wt_fr.rf, (by (try dsimp only); omega)⟩
      · skip
        refine wt_T_some ?_
        exact ⟨wt_fr.rf, (by (try dsimp only); omega)⟩
    · skip
      refine wt_T_some ?_
      exact ⟨wt_fr.rf, (by (try dsimp only); omega)⟩
set_option maxRecDepth 100000 in
set_option maxHeartbeats 4000000 in
theorem wq_ap_greedy (n : Nat) (hn : 4294967297 < n) (x1 : Int32) (σ : wt_St) : wt_T (wp_ap_greedy n x1 σ) (fun q => wt_fr (fun i k => (i = 86 ∧ k = 8) ∨ (i = 86 ∧ k = 9)) (fun i => i = 99 ∨ i = 98 ∨ i = 100) σ q.2.2 ∧ (q.1 = 0 ∨ q.1 = 1)) := by
  unfold wp_ap_greedy
  have bb1 := wt_bd x1
  have k2 : (0 : Int32).toInt = 0 := by decide
  refine wt_T_if (fun h3 => ?_) (fun h3 => ?_)
  · skip
    have c4 := wt_clt h3
    unfold wp_ap_greedy_B9
    unfold wp_ap_greedy_B14
    refine wt_T_bi (wq_ap_refuse n hn (1 : Int32) σ) (fun r5 h6 => ?_)
    obtain ⟨e7, pp8⟩ := h6
    rw [e7]
    refine wt_T_if (fun h9 => ?_) (fun h9 => ?_)
    · skip
      refine wt_T_bi (wq_wk_printGreedily n hn (100 : Int32) σ) (fun r10 h11 => ?_)
      have f12 := h11
      refine wt_T_if (fun h13 => ?_) (fun h13 => ?_)
      · skip
        have c14 := wt_ceq h13
        refine wt_T_some ?_
        exact ⟨(wt_fr.tr wt_fr.rf f12 (fun i k h => by (try dsimp only at h); rcases h with h | h; exact Or.inl (by first | exact h | omega); exact Or.inr (by first | exact h | omega)) (fun i h => by (try dsimp only at h); rcases h with h | h | h; exact Or.inl (by first | exact h | omega); exact Or.inr (Or.inl (by first | exact h | omega)); exact Or.inr (Or.inr (by first | exact h | omega)))), Or.inl rfl⟩
      · skip
        have c15 := wt_nceq h13
        refine wt_T_some ?_
        exact ⟨(wt_fr.tr wt_fr.rf f12 (fun i k h => by (try dsimp only at h); rcases h with h | h; exact Or.inl (by first | exact h | omega); exact Or.inr (by first | exact h | omega)) (fun i h => by (try dsimp only at h); rcases h with h | h | h; exact Or.inl (by first | exact h | omega); exact Or.inr (Or.inl (by first | exact h | omega)); exact Or.inr (Or.inr (by first | exact h | omega)))), Or.inl rfl⟩
    · skip
      refine wt_T_some ?_
      exact ⟨wt_fr.rf, (by (try dsimp only); omega)⟩
  · skip
    have c16 := wt_ncl h3
    have k17 : (1 : Int32).toInt = 1 := by decide
    refine wt_T_if (fun h18 => ?_) (fun h18 => ?_)
    · skip
      have c19 := wt_cle h18
      unfold wp_ap_greedy_B14
      refine wt_T_bi (wq_ap_refuse n hn (0 : Int32) σ) (fun r20 h21 => ?_)
      obtain ⟨e22, pp23⟩ := h21
      rw [e22]
      refine wt_T_if (fun h24 => ?_) (fun h24 => ?_)
      · skip
        refine wt_T_bi (wq_wk_printGreedily n hn (100 : Int32) σ) (fun r25 h26 => ?_)
        have f27 := h26
        refine wt_T_if (fun h28 => ?_) (fun h28 => ?_)
        · skip
          have c29 := wt_ceq h28
          refine wt_T_some ?_
          exact ⟨(wt_fr.tr wt_fr.rf f27 (fun i k h => by (try dsimp only at h); rcases h with h | h; exact Or.inl (by first | exact h | omega); exact Or.inr (by first | exact h | omega)) (fun i h => by (try dsimp only at h); rcases h with h | h | h; exact Or.inl (by first | exact h | omega); exact Or.inr (Or.inl (by first | exact h | omega)); exact Or.inr (Or.inr (by first | exact h | omega)))), Or.inl rfl⟩
        · skip
          have c30 := wt_nceq h28
          refine wt_T_some ?_
          exact ⟨(wt_fr.tr wt_fr.rf f27 (fun i k h => by (try dsimp only at h); rcases h with h | h; exact Or.inl (by first | exact h | omega); exact Or.inr (by first | exact h | omega)) (fun i h => by (try dsimp only at h); rcases h with h | h | h; exact Or.inl (by first | exact h | omega); exact Or.inr (Or.inl (by first | exact h | omega)); exact Or.inr (Or.inr (by first | exact h | omega)))), Or.inl rfl⟩
      · skip
        refine wt_T_some ?_
        exact ⟨wt_fr.rf, (by (try dsimp only); omega)⟩
    · skip
      have c31 := wt_ncle h18
      unfold wp_ap_greedy_B9
      unfold wp_ap_greedy_B14
      refine wt_T_bi (wq_ap_refuse n hn (1 : Int32) σ) (fun r32 h33 => ?_)
      obtain ⟨e34, pp35⟩ := h33
      rw [e34]
      refine wt_T_if (fun h36 => ?_) (fun h36 => ?_)
      · skip
        refine wt_T_bi (wq_wk_printGreedily n hn (100 : Int32) σ) (fun r37 h38 => ?_)
        have f39 := h38
        refine wt_T_if (fun h40 => ?_) (fun h40 => ?_)
        · skip
          have c41 := wt_ceq h40
          refine wt_T_some ?_
          exact ⟨(wt_fr.tr wt_fr.rf f39 (fun i k h => by (try dsimp only at h); rcases h with h | h; exact Or.inl (by first | exact h | omega); exact Or.inr (by first | exact h | omega)) (fun i h => by (try dsimp only at h); rcases h with h | h | h; exact Or.inl (by first | exact h | omega); exact Or.inr (Or.inl (by first | exact h | omega)); exact Or.inr (Or.inr (by first | exact h | omega)))), Or.inl rfl⟩
        · skip
          have c42 := wt_nceq h40
          refine wt_T_some ?_
          exact ⟨(wt_fr.tr wt_fr.rf f39 (fun i k h => by (try dsimp only at h); rcases h with h | h; exact Or.inl (by first | exact h | omega); exact Or.inr (by first | exact h | omega)) (fun i h => by (try dsimp only at h); rcases h with h | h | h; exact Or.inl (by first | exact h | omega); exact Or.inr (Or.inl (by first | exact h | omega)); exact Or.inr (Or.inr (by first | exact h | omega)))), Or.inl rfl⟩
      · skip
        refine wt_T_some ?_
        exact ⟨wt_fr.rf, (by (try dsimp only); omega)⟩
set_option maxRecDepth 100000 in
set_option maxHeartbeats 4000000 in
theorem wq_ap_habit (n : Nat) (hn : 4294967297 < n) (x1 : Int32) (σ : wt_St) : wt_T (wp_ap_habit n x1 σ) (fun q => wt_fr (fun i k => (i = 39 ∧ k = 9)) (fun i => False) σ q.2.2 ∧ (q.1 = 0 ∨ q.1 = 1)) := by
  unfold wp_ap_habit
  have bb1 := wt_bd x1
  have k2 : (0 : Int32).toInt = 0 := by decide
  refine wt_T_if (fun h3 => ?_) (fun h3 => ?_)
  · skip
    have c4 := wt_clt h3
    unfold wp_ap_habit_B9
    unfold wp_ap_habit_B14
    refine wt_T_bi (wq_ap_refuse n hn (1 : Int32) σ) (fun r5 h6 => ?_)
    obtain ⟨e7, pp8⟩ := h6
    rw [e7]
    refine wt_T_if (fun h9 => ?_) (fun h9 => ?_)
    · skip
      obtain ⟨σ10, eσ10⟩ : ∃ z : wt_St, z = wt_sf σ 39 9 x1 := ⟨_, rfl⟩
      rw [← eσ10]
      have fσ10 := wt_fr_sf eσ10
      have vσ10 := wt_ceq (wt_v_sf eσ10)
      refine wt_T_some ?_
      exact ⟨(wt_fr.tr wt_fr.rf fσ10 (fun i k h => by (try dsimp only at h); exact (by first | exact h | omega)) (fun i h => h.elim)), Or.inl rfl⟩
    · skip
      refine wt_T_some ?_
      exact ⟨wt_fr.rf, (by (try dsimp only); omega)⟩
  · skip
    have c11 := wt_ncl h3
    have k12 : (2 : Int32).toInt = 2 := by decide
    refine wt_T_if (fun h13 => ?_) (fun h13 => ?_)
    · skip
      have c14 := wt_clt h13
      unfold wp_ap_habit_B14
      refine wt_T_bi (wq_ap_refuse n hn (0 : Int32) σ) (fun r15 h16 => ?_)
      obtain ⟨e17, pp18⟩ := h16
      rw [e17]
      refine wt_T_if (fun h19 => ?_) (fun h19 => ?_)
      · skip
        obtain ⟨σ20, eσ20⟩ : ∃ z : wt_St, z = wt_sf σ 39 9 x1 := ⟨_, rfl⟩
        rw [← eσ20]
        have fσ20 := wt_fr_sf eσ20
        have vσ20 := wt_ceq (wt_v_sf eσ20)
        refine wt_T_some ?_
        exact ⟨(wt_fr.tr wt_fr.rf fσ20 (fun i k h => by (try dsimp only at h); exact (by first | exact h | omega)) (fun i h => h.elim)), Or.inl rfl⟩
      · skip
        refine wt_T_some ?_
        exact ⟨wt_fr.rf, (by (try dsimp only); omega)⟩
    · skip
      have c21 := wt_ncl h13
      unfold wp_ap_habit_B9
      unfold wp_ap_habit_B14
      refine wt_T_bi (wq_ap_refuse n hn (1 : Int32) σ) (fun r22 h23 => ?_)
      obtain ⟨e24, pp25⟩ := h23
      rw [e24]
      refine wt_T_if (fun h26 => ?_) (fun h26 => ?_)
      · skip
        obtain ⟨σ27, eσ27⟩ : ∃ z : wt_St, z = wt_sf σ 39 9 x1 := ⟨_, rfl⟩
        rw [← eσ27]
        have fσ27 := wt_fr_sf eσ27
        have vσ27 := wt_ceq (wt_v_sf eσ27)
        refine wt_T_some ?_
        exact ⟨(wt_fr.tr wt_fr.rf fσ27 (fun i k h => by (try dsimp only at h); exact (by first | exact h | omega)) (fun i h => h.elim)), Or.inl rfl⟩
      · skip
        refine wt_T_some ?_
        exact ⟨wt_fr.rf, (by (try dsimp only); omega)⟩
set_option maxRecDepth 100000 in
set_option maxHeartbeats 4000000 in
theorem wq_ap_kase (n : Nat) (hn : 4294967297 < n) (x1 : Int32) (σ : wt_St) : wt_T (wp_ap_kase n x1 σ) (fun q => wt_fr (fun i k => (i = 1 ∧ k = 2) ∨ (i = 1 ∧ k = 3) ∨ (i = 1 ∧ k = 4) ∨ (i = 1 ∧ k = 5) ∨ (i = 1 ∧ k = 6) ∨ (i = 1 ∧ k = 7) ∨ (i = 12 ∧ k = 7) ∨ (i = 4 ∧ k = 7) ∨ (i = 0 ∧ k = 14)) (fun i => i = 13 ∨ i = 14 ∨ i = 15 ∨ i = 16 ∨ i = 17 ∨ i = 18 ∨ i = 19 ∨ i = 3 ∨ i = 5 ∨ i = 6 ∨ i = 7 ∨ i = 8 ∨ i = 9 ∨ i = 10 ∨ i = 11 ∨ i = 40 ∨ i = 41 ∨ i = 43) σ q.2.2 ∧ (q.1 = 0 ∨ q.1 = 1) ∧ (x1.toInt < 0 ∨ (wt_gf σ 1 2).toInt < x1.toInt → (wt_gf q.2.2 1 2).toInt = (wt_gf σ 1 2).toInt) ∧ (0 ≤ x1.toInt ∧ x1.toInt ≤ (wt_gf σ 1 2).toInt → (wt_gf q.2.2 1 2).toInt = 0)) := by
  unfold wp_ap_kase
  have bb1 := wt_bd x1
  have k2 : (0 : Int32).toInt = 0 := by decide
  refine wt_T_if (fun h3 => ?_) (fun h3 => ?_)
  · skip
    have c4 := wt_clt h3
    unfold wp_ap_kase_B15
    unfold wp_ap_kase_B20
    have k5 : (1 : Int32).toInt = 1 := by decide
    refine wt_T_bi (wq_ap_refuse n hn (1 : Int32) σ) (fun r6 h7 => ?_)
    obtain ⟨e8, pp9⟩ := h7
    rw [e8]
    refine wt_T_if (fun h10 => ?_) (fun h10 => ?_)
    · skip
      refine wt_T_bi (wq_tp_begin n hn x1 σ) (fun r11 h12 => ?_)
      obtain ⟨f13, pp14⟩ := h12
      refine wt_T_bi (wq_ld_fill n hn 12 r11) (fun r15 h16 => ?_)
      have f17 := h16
      have bb18 := wt_bd r15.1
      refine wt_T_if (fun h19 => ?_) (fun h19 => ?_)
      · skip
        have c20 := wt_ceq h19
        refine wt_T_some ?_
        have bb21 := wt_bd (wt_gf r15.2 1 2)
        have tt22 : (wt_gf r15.2 1 2).toInt = (wt_gf r11 1 2).toInt := congrArg Int32.toInt (f17.1 1 2 (by (try dsimp only); omega))
        have bb23 := wt_bd (wt_gf r11 1 2)
        have bb24 := wt_bd (wt_gf σ 1 2)
        exact ⟨(wt_fr.tr (wt_fr.tr wt_fr.rf f13 (fun i k h => by (try dsimp only at h); rcases h with h | h | h | h | h | h; exact Or.inl (by first | exact h | omega); exact Or.inr (Or.inl (by first | exact h | omega)); exact Or.inr (Or.inr (Or.inl (by first | exact h | omega))); exact Or.inr (Or.inr (Or.inr (Or.inl (by first | exact h | omega)))); exact Or.inr (Or.inr (Or.inr (Or.inr (Or.inl (by first | exact h | omega))))); exact Or.inr (Or.inr (Or.inr (Or.inr (Or.inr (Or.inl (by first | exact h | omega))))))) (fun i h => h.elim)) f17 (fun i k h => by (try dsimp only at h); rcases h with h | h | h | h | h; exact Or.inr (Or.inr (Or.inr (Or.inr (Or.inr (Or.inr (Or.inl (by first | exact h | omega))))))); exact Or.inr (Or.inr (Or.inr (Or.inl (by first | exact h | omega)))); exact Or.inr (Or.inr (Or.inl (by first | exact h | omega))); exact Or.inr (Or.inr (Or.inr (Or.inr (Or.inl (by first | exact h | omega))))); exact Or.inr (Or.inr (Or.inr (Or.inr (Or.inr (Or.inl (by first | exact h | omega))))))) (fun i h => by (try dsimp only at h); rcases h with h | h | h | h | h | h | h | h; exact Or.inl (by first | exact h | omega); exact Or.inr (Or.inl (by first | exact h | omega)); exact Or.inr (Or.inr (Or.inl (by first | exact h | omega))); exact Or.inr (Or.inr (Or.inr (Or.inl (by first | exact h | omega)))); exact Or.inr (Or.inr (Or.inr (Or.inr (Or.inl (by first | exact h | omega))))); exact Or.inr (Or.inr (Or.inr (Or.inr (Or.inr (Or.inl (by first | exact h | omega)))))); exact Or.inr (Or.inr (Or.inr (Or.inr (Or.inr (Or.inr (Or.inl (by first | exact h | omega))))))); exact Or.inr (Or.inr (Or.inr (Or.inr (Or.inr (Or.inr (Or.inr (Or.inl (by first | exact h | omega)))))))))), Or.inl rfl, (show (x1.toInt < 0 ∨ (wt_gf σ 1 2).toInt < x1.toInt → (wt_gf r15.2 1 2).toInt = (wt_gf σ 1 2).toInt) ∧ (0 ≤ x1.toInt ∧ x1.toInt ≤ (wt_gf σ 1 2).toInt → (wt_gf r15.2 1 2).toInt = 0) by omega)⟩
      · skip
        have c25 := wt_nceq h19
        refine wt_T_bi (wq_ld_become n hn 4 12 r15.2) (fun r26 h27 => ?_)
        have f28 := h27
        refine wt_T_bi (wq_st_lay n hn 39 4 r26) (fun r29 h30 => ?_)
        have f31 := h30
        obtain ⟨σ32, eσ32⟩ : ∃ z : wt_St, z = wt_sf r29 0 14 (0 : Int32) := ⟨_, rfl⟩
        rw [← eσ32]
        have fσ32 := wt_fr_sf eσ32
        have vσ32 := wt_ceq (wt_v_sf eσ32)
        refine wt_T_bi (wq_sk_piecesOfAll n hn σ32) (fun r33 h34 => ?_)
        have e35 := h34
        rw [e35]
        refine wt_T_some ?_
        have bb36 := wt_bd (wt_gf σ32 1 2)
        have tt37 : (wt_gf σ32 1 2).toInt = (wt_gf r29 1 2).toInt := congrArg Int32.toInt (fσ32.1 1 2 (by (try dsimp only); omega))
        have bb38 := wt_bd (wt_gf r29 1 2)
        have tt39 : (wt_gf r29 1 2).toInt = (wt_gf r26 1 2).toInt := congrArg Int32.toInt (f31.1 1 2 (fun z => z))
        have bb40 := wt_bd (wt_gf r26 1 2)
        have tt41 : (wt_gf r26 1 2).toInt = (wt_gf r15.2 1 2).toInt := congrArg Int32.toInt (f28.1 1 2 (by (try dsimp only); omega))
        have bb42 := wt_bd (wt_gf r15.2 1 2)
        have tt43 : (wt_gf r15.2 1 2).toInt = (wt_gf r11 1 2).toInt := congrArg Int32.toInt (f17.1 1 2 (by (try dsimp only); omega))
        have bb44 := wt_bd (wt_gf r11 1 2)
        have bb45 := wt_bd (wt_gf σ 1 2)
        exact ⟨(wt_fr.tr (wt_fr.tr (wt_fr.tr (wt_fr.tr (wt_fr.tr wt_fr.rf f13 (fun i k h => by (try dsimp only at h); rcases h with h | h | h | h | h | h; exact Or.inl (by first | exact h | omega); exact Or.inr (Or.inl (by first | exact h | omega)); exact Or.inr (Or.inr (Or.inl (by first | exact h | omega))); exact Or.inr (Or.inr (Or.inr (Or.inl (by first | exact h | omega)))); exact Or.inr (Or.inr (Or.inr (Or.inr (Or.inl (by first | exact h | omega))))); exact Or.inr (Or.inr (Or.inr (Or.inr (Or.inr (Or.inl (by first | exact h | omega))))))) (fun i h => h.elim)) f17 (fun i k h => by (try dsimp only at h); rcases h with h | h | h | h | h; exact Or.inr (Or.inr (Or.inr (Or.inr (Or.inr (Or.inr (Or.inl (by first | exact h | omega))))))); exact Or.inr (Or.inr (Or.inr (Or.inl (by first | exact h | omega)))); exact Or.inr (Or.inr (Or.inl (by first | exact h | omega))); exact Or.inr (Or.inr (Or.inr (Or.inr (Or.inl (by first | exact h | omega))))); exact Or.inr (Or.inr (Or.inr (Or.inr (Or.inr (Or.inl (by first | exact h | omega))))))) (fun i h => by (try dsimp only at h); rcases h with h | h | h | h | h | h | h | h; exact Or.inl (by first | exact h | omega); exact Or.inr (Or.inl (by first | exact h | omega)); exact Or.inr (Or.inr (Or.inl (by first | exact h | omega))); exact Or.inr (Or.inr (Or.inr (Or.inl (by first | exact h | omega)))); exact Or.inr (Or.inr (Or.inr (Or.inr (Or.inl (by first | exact h | omega))))); exact Or.inr (Or.inr (Or.inr (Or.inr (Or.inr (Or.inl (by first | exact h | omega)))))); exact Or.inr (Or.inr (Or.inr (Or.inr (Or.inr (Or.inr (Or.inl (by first | exact h | omega))))))); exact Or.inr (Or.inr (Or.inr (Or.inr (Or.inr (Or.inr (Or.inr (Or.inl (by first | exact h | omega)))))))))) f28 (fun i k h => by (try dsimp only at h); exact Or.inr (Or.inr (Or.inr (Or.inr (Or.inr (Or.inr (Or.inr (Or.inl (by first | exact h | omega))))))))) (fun i h => by (try dsimp only at h); rcases h with h | h | h | h | h | h | h; exact Or.inr (Or.inr (Or.inr (Or.inr (Or.inr (Or.inr (Or.inr (Or.inr (Or.inl (by first | exact h | omega))))))))); exact Or.inr (Or.inr (Or.inr (Or.inr (Or.inr (Or.inr (Or.inr (Or.inr (Or.inr (Or.inl (by first | exact h | omega)))))))))); exact Or.inr (Or.inr (Or.inr (Or.inr (Or.inr (Or.inr (Or.inr (Or.inr (Or.inr (Or.inr (Or.inl (by first | exact h | omega))))))))))); exact Or.inr (Or.inr (Or.inr (Or.inr (Or.inr (Or.inr (Or.inr (Or.inr (Or.inr (Or.inr (Or.inr (Or.inl (by first | exact h | omega)))))))))))); exact Or.inr (Or.inr (Or.inr (Or.inr (Or.inr (Or.inr (Or.inr (Or.inr (Or.inr (Or.inr (Or.inr (Or.inr (Or.inl (by first | exact h | omega))))))))))))); exact Or.inr (Or.inr (Or.inr (Or.inr (Or.inr (Or.inr (Or.inr (Or.inr (Or.inr (Or.inr (Or.inr (Or.inr (Or.inr (Or.inl (by first | exact h | omega)))))))))))))); exact Or.inr (Or.inr (Or.inr (Or.inr (Or.inr (Or.inr (Or.inr (Or.inr (Or.inr (Or.inr (Or.inr (Or.inr (Or.inr (Or.inr (Or.inl (by first | exact h | omega))))))))))))))))) f31 (fun i k h => h.elim) (fun i h => by (try dsimp only at h); rcases h with h | h | h; exact Or.inr (Or.inr (Or.inr (Or.inr (Or.inr (Or.inr (Or.inr (Or.inr (Or.inr (Or.inr (Or.inr (Or.inr (Or.inr (Or.inr (Or.inr (Or.inl (by first | exact h | omega)))))))))))))))); exact Or.inr (Or.inr (Or.inr (Or.inr (Or.inr (Or.inr (Or.inr (Or.inr (Or.inr (Or.inr (Or.inr (Or.inr (Or.inr (Or.inr (Or.inr (Or.inr (Or.inl (by first | exact h | omega))))))))))))))))); exact Or.inr (Or.inr (Or.inr (Or.inr (Or.inr (Or.inr (Or.inr (Or.inr (Or.inr (Or.inr (Or.inr (Or.inr (Or.inr (Or.inr (Or.inr (Or.inr (Or.inr (by first | exact h | omega))))))))))))))))))) fσ32 (fun i k h => by (try dsimp only at h); exact Or.inr (Or.inr (Or.inr (Or.inr (Or.inr (Or.inr (Or.inr (Or.inr (by first | exact h | omega))))))))) (fun i h => h.elim)), Or.inl rfl, (show (x1.toInt < 0 ∨ (wt_gf σ 1 2).toInt < x1.toInt → (wt_gf σ32 1 2).toInt = (wt_gf σ 1 2).toInt) ∧ (0 ≤ x1.toInt ∧ x1.toInt ≤ (wt_gf σ 1 2).toInt → (wt_gf σ32 1 2).toInt = 0) by omega)⟩
    · skip
      refine wt_T_some ?_
      have bb46 := wt_bd (wt_gf σ 1 2)
      exact ⟨wt_fr.rf, (by (try dsimp only); omega), (show (x1.toInt < 0 ∨ (wt_gf σ 1 2).toInt < x1.toInt → (wt_gf σ 1 2).toInt = (wt_gf σ 1 2).toInt) ∧ (0 ≤ x1.toInt ∧ x1.toInt ≤ (wt_gf σ 1 2).toInt → (wt_gf σ 1 2).toInt = 0) by omega)⟩
  · skip
    have c47 := wt_ncl h3
    have bb48 := wt_bd (wt_gf σ 1 2)
    refine wt_T_if (fun h49 => ?_) (fun h49 => ?_)
    · skip
      have c50 := wt_cle h49
      unfold wp_ap_kase_B20
      refine wt_T_bi (wq_ap_refuse n hn (0 : Int32) σ) (fun r51 h52 => ?_)
      obtain ⟨e53, pp54⟩ := h52
      rw [e53]
      refine wt_T_if (fun h55 => ?_) (fun h55 => ?_)
      · skip
        refine wt_T_bi (wq_tp_begin n hn x1 σ) (fun r56 h57 => ?_)
        obtain ⟨f58, pp59⟩ := h57
        refine wt_T_bi (wq_ld_fill n hn 12 r56) (fun r60 h61 => ?_)
        have f62 := h61
        have bb63 := wt_bd r60.1
        refine wt_T_if (fun h64 => ?_) (fun h64 => ?_)
        · skip
          have c65 := wt_ceq h64
          refine wt_T_some ?_
          have bb66 := wt_bd (wt_gf r60.2 1 2)
          have tt67 : (wt_gf r60.2 1 2).toInt = (wt_gf r56 1 2).toInt := congrArg Int32.toInt (f62.1 1 2 (by (try dsimp only); omega))
          have bb68 := wt_bd (wt_gf r56 1 2)
          exact ⟨(wt_fr.tr (wt_fr.tr wt_fr.rf f58 (fun i k h => by (try dsimp only at h); rcases h with h | h | h | h | h | h; exact Or.inl (by first | exact h | omega); exact Or.inr (Or.inl (by first | exact h | omega)); exact Or.inr (Or.inr (Or.inl (by first | exact h | omega))); exact Or.inr (Or.inr (Or.inr (Or.inl (by first | exact h | omega)))); exact Or.inr (Or.inr (Or.inr (Or.inr (Or.inl (by first | exact h | omega))))); exact Or.inr (Or.inr (Or.inr (Or.inr (Or.inr (Or.inl (by first | exact h | omega))))))) (fun i h => h.elim)) f62 (fun i k h => by (try dsimp only at h); rcases h with h | h | h | h | h; exact Or.inr (Or.inr (Or.inr (Or.inr (Or.inr (Or.inr (Or.inl (by first | exact h | omega))))))); exact Or.inr (Or.inr (Or.inr (Or.inl (by first | exact h | omega)))); exact Or.inr (Or.inr (Or.inl (by first | exact h | omega))); exact Or.inr (Or.inr (Or.inr (Or.inr (Or.inl (by first | exact h | omega))))); exact Or.inr (Or.inr (Or.inr (Or.inr (Or.inr (Or.inl (by first | exact h | omega))))))) (fun i h => by (try dsimp only at h); rcases h with h | h | h | h | h | h | h | h; exact Or.inl (by first | exact h | omega); exact Or.inr (Or.inl (by first | exact h | omega)); exact Or.inr (Or.inr (Or.inl (by first | exact h | omega))); exact Or.inr (Or.inr (Or.inr (Or.inl (by first | exact h | omega)))); exact Or.inr (Or.inr (Or.inr (Or.inr (Or.inl (by first | exact h | omega))))); exact Or.inr (Or.inr (Or.inr (Or.inr (Or.inr (Or.inl (by first | exact h | omega)))))); exact Or.inr (Or.inr (Or.inr (Or.inr (Or.inr (Or.inr (Or.inl (by first | exact h | omega))))))); exact Or.inr (Or.inr (Or.inr (Or.inr (Or.inr (Or.inr (Or.inr (Or.inl (by first | exact h | omega)))))))))), Or.inl rfl, (show (x1.toInt < 0 ∨ (wt_gf σ 1 2).toInt < x1.toInt → (wt_gf r60.2 1 2).toInt = (wt_gf σ 1 2).toInt) ∧ (0 ≤ x1.toInt ∧ x1.toInt ≤ (wt_gf σ 1 2).toInt → (wt_gf r60.2 1 2).toInt = 0) by omega)⟩
        · skip
          have c69 := wt_nceq h64
          refine wt_T_bi (wq_ld_become n hn 4 12 r60.2) (fun r70 h71 => ?_)
          have f72 := h71
          refine wt_T_bi (wq_st_lay n hn 39 4 r70) (fun r73 h74 => ?_)
          have f75 := h74
          obtain ⟨σ76, eσ76⟩ : ∃ z : wt_St, z = wt_sf r73 0 14 (0 : Int32) := ⟨_, rfl⟩
          rw [← eσ76]
          have fσ76 := wt_fr_sf eσ76
          have vσ76 := wt_ceq (wt_v_sf eσ76)
          refine wt_T_bi (wq_sk_piecesOfAll n hn σ76) (fun r77 h78 => ?_)
          have e79 := h78
          rw [e79]
          refine wt_T_some ?_
          have bb80 := wt_bd (wt_gf σ76 1 2)
          have tt81 : (wt_gf σ76 1 2).toInt = (wt_gf r73 1 2).toInt := congrArg Int32.toInt (fσ76.1 1 2 (by (try dsimp only); omega))
          have bb82 := wt_bd (wt_gf r73 1 2)
          have tt83 : (wt_gf r73 1 2).toInt = (wt_gf r70 1 2).toInt := congrArg Int32.toInt (f75.1 1 2 (fun z => z))
          have bb84 := wt_bd (wt_gf r70 1 2)
          have tt85 : (wt_gf r70 1 2).toInt = (wt_gf r60.2 1 2).toInt := congrArg Int32.toInt (f72.1 1 2 (by (try dsimp only); omega))
          have bb86 := wt_bd (wt_gf r60.2 1 2)
          have tt87 : (wt_gf r60.2 1 2).toInt = (wt_gf r56 1 2).toInt := congrArg Int32.toInt (f62.1 1 2 (by (try dsimp only); omega))
          have bb88 := wt_bd (wt_gf r56 1 2)
          exact ⟨(wt_fr.tr (wt_fr.tr (wt_fr.tr (wt_fr.tr (wt_fr.tr wt_fr.rf f58 (fun i k h => by (try dsimp only at h); rcases h with h | h | h | h | h | h; exact Or.inl (by first | exact h | omega); exact Or.inr (Or.inl (by first | exact h | omega)); exact Or.inr (Or.inr (Or.inl (by first | exact h | omega))); exact Or.inr (Or.inr (Or.inr (Or.inl (by first | exact h | omega)))); exact Or.inr (Or.inr (Or.inr (Or.inr (Or.inl (by first | exact h | omega))))); exact Or.inr (Or.inr (Or.inr (Or.inr (Or.inr (Or.inl (by first | exact h | omega))))))) (fun i h => h.elim)) f62 (fun i k h => by (try dsimp only at h); rcases h with h | h | h | h | h; exact Or.inr (Or.inr (Or.inr (Or.inr (Or.inr (Or.inr (Or.inl (by first | exact h | omega))))))); exact Or.inr (Or.inr (Or.inr (Or.inl (by first | exact h | omega)))); exact Or.inr (Or.inr (Or.inl (by first | exact h | omega))); exact Or.inr (Or.inr (Or.inr (Or.inr (Or.inl (by first | exact h | omega))))); exact Or.inr (Or.inr (Or.inr (Or.inr (Or.inr (Or.inl (by first | exact h | omega))))))) (fun i h => by (try dsimp only at h); rcases h with h | h | h | h | h | h | h | h; exact Or.inl (by first | exact h | omega); exact Or.inr (Or.inl (by first | exact h | omega)); exact Or.inr (Or.inr (Or.inl (by first | exact h | omega))); exact Or.inr (Or.inr (Or.inr (Or.inl (by first | exact h | omega)))); exact Or.inr (Or.inr (Or.inr (Or.inr (Or.inl (by first | exact h | omega))))); exact Or.inr (Or.inr (Or.inr (Or.inr (Or.inr (Or.inl (by first | exact h | omega)))))); exact Or.inr (Or.inr (Or.inr (Or.inr (Or.inr (Or.inr (Or.inl (by first | exact h | omega))))))); exact Or.inr (Or.inr (Or.inr (Or.inr (Or.inr (Or.inr (Or.inr (Or.inl (by first | exact h | omega)))))))))) f72 (fun i k h => by (try dsimp only at h); exact Or.inr (Or.inr (Or.inr (Or.inr (Or.inr (Or.inr (Or.inr (Or.inl (by first | exact h | omega))))))))) (fun i h => by (try dsimp only at h); rcases h with h | h | h | h | h | h | h; exact Or.inr (Or.inr (Or.inr (Or.inr (Or.inr (Or.inr (Or.inr (Or.inr (Or.inl (by first | exact h | omega))))))))); exact Or.inr (Or.inr (Or.inr (Or.inr (Or.inr (Or.inr (Or.inr (Or.inr (Or.inr (Or.inl (by first | exact h | omega)))))))))); exact Or.inr (Or.inr (Or.inr (Or.inr (Or.inr (Or.inr (Or.inr (Or.inr (Or.inr (Or.inr (Or.inl (by first | exact h | omega))))))))))); exact Or.inr (Or.inr (Or.inr (Or.inr (Or.inr (Or.inr (Or.inr (Or.inr (Or.inr (Or.inr (Or.inr (Or.inl (by first | exact h | omega)))))))))))); exact Or.inr (Or.inr (Or.inr (Or.inr (Or.inr (Or.inr (Or.inr (Or.inr (Or.inr (Or.inr (Or.inr (Or.inr (Or.inl (by first | exact h | omega))))))))))))); exact Or.inr (Or.inr (Or.inr (Or.inr (Or.inr (Or.inr (Or.inr (Or.inr (Or.inr (Or.inr (Or.inr (Or.inr (Or.inr (Or.inl (by first | exact h | omega)))))))))))))); exact Or.inr (Or.inr (Or.inr (Or.inr (Or.inr (Or.inr (Or.inr (Or.inr (Or.inr (Or.inr (Or.inr (Or.inr (Or.inr (Or.inr (Or.inl (by first | exact h | omega))))))))))))))))) f75 (fun i k h => h.elim) (fun i h => by (try dsimp only at h); rcases h with h | h | h; exact Or.inr (Or.inr (Or.inr (Or.inr (Or.inr (Or.inr (Or.inr (Or.inr (Or.inr (Or.inr (Or.inr (Or.inr (Or.inr (Or.inr (Or.inr (Or.inl (by first | exact h | omega)))))))))))))))); exact Or.inr (Or.inr (Or.inr (Or.inr (Or.inr (Or.inr (Or.inr (Or.inr (Or.inr (Or.inr (Or.inr (Or.inr (Or.inr (Or.inr (Or.inr (Or.inr (Or.inl (by first | exact h | omega))))))))))))))))); exact Or.inr (Or.inr (Or.inr (Or.inr (Or.inr (Or.inr (Or.inr (Or.inr (Or.inr (Or.inr (Or.inr (Or.inr (Or.inr (Or.inr (Or.inr (Or.inr (Or.inr (by first | exact h | omega))))))))))))))))))) fσ76 (fun i k h => by (try dsimp only at h); exact Or.inr (Or.inr (Or.inr (Or.inr (Or.inr (Or.inr (Or.inr (Or.inr (by first | exact h | omega))))))))) (fun i h => h.elim)), Or.inl rfl, (show (x1.toInt < 0 ∨ (wt_gf σ 1 2).toInt < x1.toInt → (wt_gf σ76 1 2).toInt = (wt_gf σ 1 2).toInt) ∧ (0 ≤ x1.toInt ∧ x1.toInt ≤ (wt_gf σ 1 2).toInt → (wt_gf σ76 1 2).toInt = 0) by omega)⟩
      · skip
        refine wt_T_some ?_
        exact ⟨wt_fr.rf, (by (try dsimp only); omega), (show (x1.toInt < 0 ∨ (wt_gf σ 1 2).toInt < x1.toInt → (wt_gf σ 1 2).toInt = (wt_gf σ 1 2).toInt) ∧ (0 ≤ x1.toInt ∧ x1.toInt ≤ (wt_gf σ 1 2).toInt → (wt_gf σ 1 2).toInt = 0) by omega)⟩
    · skip
      have c89 := wt_ncle h49
      unfold wp_ap_kase_B15
      unfold wp_ap_kase_B20
      have k90 : (1 : Int32).toInt = 1 := by decide
      refine wt_T_bi (wq_ap_refuse n hn (1 : Int32) σ) (fun r91 h92 => ?_)
      obtain ⟨e93, pp94⟩ := h92
      rw [e93]
      refine wt_T_if (fun h95 => ?_) (fun h95 => ?_)
      · skip
        refine wt_T_bi (wq_tp_begin n hn x1 σ) (fun r96 h97 => ?_)
        obtain ⟨f98, pp99⟩ := h97
        refine wt_T_bi (wq_ld_fill n hn 12 r96) (fun r100 h101 => ?_)
        have f102 := h101
        have bb103 := wt_bd r100.1
        refine wt_T_if (fun h104 => ?_) (fun h104 => ?_)
        · skip
          have c105 := wt_ceq h104
          refine wt_T_some ?_
          have bb106 := wt_bd (wt_gf r100.2 1 2)
          have tt107 : (wt_gf r100.2 1 2).toInt = (wt_gf r96 1 2).toInt := congrArg Int32.toInt (f102.1 1 2 (by (try dsimp only); omega))
          have bb108 := wt_bd (wt_gf r96 1 2)
          exact ⟨(wt_fr.tr (wt_fr.tr wt_fr.rf f98 (fun i k h => by (try dsimp only at h); rcases h with h | h | h | h | h | h; exact Or.inl (by first | exact h | omega); exact Or.inr (Or.inl (by first | exact h | omega)); exact Or.inr (Or.inr (Or.inl (by first | exact h | omega))); exact Or.inr (Or.inr (Or.inr (Or.inl (by first | exact h | omega)))); exact Or.inr (Or.inr (Or.inr (Or.inr (Or.inl (by first | exact h | omega))))); exact Or.inr (Or.inr (Or.inr (Or.inr (Or.inr (Or.inl (by first | exact h | omega))))))) (fun i h => h.elim)) f102 (fun i k h => by (try dsimp only at h); rcases h with h | h | h | h | h; exact Or.inr (Or.inr (Or.inr (Or.inr (Or.inr (Or.inr (Or.inl (by first | exact h | omega))))))); exact Or.inr (Or.inr (Or.inr (Or.inl (by first | exact h | omega)))); exact Or.inr (Or.inr (Or.inl (by first | exact h | omega))); exact Or.inr (Or.inr (Or.inr (Or.inr (Or.inl (by first | exact h | omega))))); exact Or.inr (Or.inr (Or.inr (Or.inr (Or.inr (Or.inl (by first | exact h | omega))))))) (fun i h => by (try dsimp only at h); rcases h with h | h | h | h | h | h | h | h; exact Or.inl (by first | exact h | omega); exact Or.inr (Or.inl (by first | exact h | omega)); exact Or.inr (Or.inr (Or.inl (by first | exact h | omega))); exact Or.inr (Or.inr (Or.inr (Or.inl (by first | exact h | omega)))); exact Or.inr (Or.inr (Or.inr (Or.inr (Or.inl (by first | exact h | omega))))); exact Or.inr (Or.inr (Or.inr (Or.inr (Or.inr (Or.inl (by first | exact h | omega)))))); exact Or.inr (Or.inr (Or.inr (Or.inr (Or.inr (Or.inr (Or.inl (by first | exact h | omega))))))); exact Or.inr (Or.inr (Or.inr (Or.inr (Or.inr (Or.inr (Or.inr (Or.inl (by first | exact h | omega)))))))))), Or.inl rfl, (show (x1.toInt < 0 ∨ (wt_gf σ 1 2).toInt < x1.toInt → (wt_gf r100.2 1 2).toInt = (wt_gf σ 1 2).toInt) ∧ (0 ≤ x1.toInt ∧ x1.toInt ≤ (wt_gf σ 1 2).toInt → (wt_gf r100.2 1 2).toInt = 0) by omega)⟩
        · skip
          have c109 := wt_nceq h104
          refine wt_T_bi (wq_ld_become n hn 4 12 r100.2) (fun r110 h111 => ?_)
          have f112 := h111
          refine wt_T_bi (wq_st_lay n hn 39 4 r110) (fun r113 h114 => ?_)
          have f115 := h114
          obtain ⟨σ116, eσ116⟩ : ∃ z : wt_St, z = wt_sf r113 0 14 (0 : Int32) := ⟨_, rfl⟩
          rw [← eσ116]
          have fσ116 := wt_fr_sf eσ116
          have vσ116 := wt_ceq (wt_v_sf eσ116)
          refine wt_T_bi (wq_sk_piecesOfAll n hn σ116) (fun r117 h118 => ?_)
          have e119 := h118
          rw [e119]
          refine wt_T_some ?_
          have bb120 := wt_bd (wt_gf σ116 1 2)
          have tt121 : (wt_gf σ116 1 2).toInt = (wt_gf r113 1 2).toInt := congrArg Int32.toInt (fσ116.1 1 2 (by (try dsimp only); omega))
          have bb122 := wt_bd (wt_gf r113 1 2)
          have tt123 : (wt_gf r113 1 2).toInt = (wt_gf r110 1 2).toInt := congrArg Int32.toInt (f115.1 1 2 (fun z => z))
          have bb124 := wt_bd (wt_gf r110 1 2)
          have tt125 : (wt_gf r110 1 2).toInt = (wt_gf r100.2 1 2).toInt := congrArg Int32.toInt (f112.1 1 2 (by (try dsimp only); omega))
          have bb126 := wt_bd (wt_gf r100.2 1 2)
          have tt127 : (wt_gf r100.2 1 2).toInt = (wt_gf r96 1 2).toInt := congrArg Int32.toInt (f102.1 1 2 (by (try dsimp only); omega))
          have bb128 := wt_bd (wt_gf r96 1 2)
          exact ⟨(wt_fr.tr (wt_fr.tr (wt_fr.tr (wt_fr.tr (wt_fr.tr wt_fr.rf f98 (fun i k h => by (try dsimp only at h); rcases h with h | h | h | h | h | h; exact Or.inl (by first | exact h | omega); exact Or.inr (Or.inl (by first | exact h | omega)); exact Or.inr (Or.inr (Or.inl (by first | exact h | omega))); exact Or.inr (Or.inr (Or.inr (Or.inl (by first | exact h | omega)))); exact Or.inr (Or.inr (Or.inr (Or.inr (Or.inl (by first | exact h | omega))))); exact Or.inr (Or.inr (Or.inr (Or.inr (Or.inr (Or.inl (by first | exact h | omega))))))) (fun i h => h.elim)) f102 (fun i k h => by (try dsimp only at h); rcases h with h | h | h | h | h; exact Or.inr (Or.inr (Or.inr (Or.inr (Or.inr (Or.inr (Or.inl (by first | exact h | omega))))))); exact Or.inr (Or.inr (Or.inr (Or.inl (by first | exact h | omega)))); exact Or.inr (Or.inr (Or.inl (by first | exact h | omega))); exact Or.inr (Or.inr (Or.inr (Or.inr (Or.inl (by first | exact h | omega))))); exact Or.inr (Or.inr (Or.inr (Or.inr (Or.inr (Or.inl (by first | exact h | omega))))))) (fun i h => by (try dsimp only at h); rcases h with h | h | h | h | h | h | h | h; exact Or.inl (by first | exact h | omega); exact Or.inr (Or.inl (by first | exact h | omega)); exact Or.inr (Or.inr (Or.inl (by first | exact h | omega))); exact Or.inr (Or.inr (Or.inr (Or.inl (by first | exact h | omega)))); exact Or.inr (Or.inr (Or.inr (Or.inr (Or.inl (by first | exact h | omega))))); exact Or.inr (Or.inr (Or.inr (Or.inr (Or.inr (Or.inl (by first | exact h | omega)))))); exact Or.inr (Or.inr (Or.inr (Or.inr (Or.inr (Or.inr (Or.inl (by first | exact h | omega))))))); exact Or.inr (Or.inr (Or.inr (Or.inr (Or.inr (Or.inr (Or.inr (Or.inl (by first | exact h | omega)))))))))) f112 (fun i k h => by (try dsimp only at h); exact Or.inr (Or.inr (Or.inr (Or.inr (Or.inr (Or.inr (Or.inr (Or.inl (by first | exact h | omega))))))))) (fun i h => by (try dsimp only at h); rcases h with h | h | h | h | h | h | h; exact Or.inr (Or.inr (Or.inr (Or.inr (Or.inr (Or.inr (Or.inr (Or.inr (Or.inl (by first | exact h | omega))))))))); exact Or.inr (Or.inr (Or.inr (Or.inr (Or.inr (Or.inr (Or.inr (Or.inr (Or.inr (Or.inl (by first | exact h | omega)))))))))); exact Or.inr (Or.inr (Or.inr (Or.inr (Or.inr (Or.inr (Or.inr (Or.inr (Or.inr (Or.inr (Or.inl (by first | exact h | omega))))))))))); exact Or.inr (Or.inr (Or.inr (Or.inr (Or.inr (Or.inr (Or.inr (Or.inr (Or.inr (Or.inr (Or.inr (Or.inl (by first | exact h | omega)))))))))))); exact Or.inr (Or.inr (Or.inr (Or.inr (Or.inr (Or.inr (Or.inr (Or.inr (Or.inr (Or.inr (Or.inr (Or.inr (Or.inl (by first | exact h | omega))))))))))))); exact Or.inr (Or.inr (Or.inr (Or.inr (Or.inr (Or.inr (Or.inr (Or.inr (Or.inr (Or.inr (Or.inr (Or.inr (Or.inr (Or.inl (by first | exact h | omega)))))))))))))); exact Or.inr (Or.inr (Or.inr (Or.inr (Or.inr (Or.inr (Or.inr (Or.inr (Or.inr (Or.inr (Or.inr (Or.inr (Or.inr (Or.inr (Or.inl (by first | exact h | omega))))))))))))))))) f115 (fun i k h => h.elim) (fun i h => by (try dsimp only at h); rcases h with h | h | h; exact Or.inr (Or.inr (Or.inr (Or.inr (Or.inr (Or.inr (Or.inr (Or.inr (Or.inr (Or.inr (Or.inr (Or.inr (Or.inr (Or.inr (Or.inr (Or.inl (by first | exact h | omega)))))))))))))))); exact Or.inr (Or.inr (Or.inr (Or.inr (Or.inr (Or.inr (Or.inr (Or.inr (Or.inr (Or.inr (Or.inr (Or.inr (Or.inr (Or.inr (Or.inr (Or.inr (Or.inl (by first | exact h | omega))))))))))))))))); exact Or.inr (Or.inr (Or.inr (Or.inr (Or.inr (Or.inr (Or.inr (Or.inr (Or.inr (Or.inr (Or.inr (Or.inr (Or.inr (Or.inr (Or.inr (Or.inr (Or.inr (by first | exact h | omega))))))))))))))))))) fσ116 (fun i k h => by (try dsimp only at h); exact Or.inr (Or.inr (Or.inr (Or.inr (Or.inr (Or.inr (Or.inr (Or.inr (by first | exact h | omega))))))))) (fun i h => h.elim)), Or.inl rfl, (show (x1.toInt < 0 ∨ (wt_gf σ 1 2).toInt < x1.toInt → (wt_gf σ116 1 2).toInt = (wt_gf σ 1 2).toInt) ∧ (0 ≤ x1.toInt ∧ x1.toInt ≤ (wt_gf σ 1 2).toInt → (wt_gf σ116 1 2).toInt = 0) by omega)⟩
      · skip
        refine wt_T_some ?_
        exact ⟨wt_fr.rf, (by (try dsimp only); omega), (show (x1.toInt < 0 ∨ (wt_gf σ 1 2).toInt < x1.toInt → (wt_gf σ 1 2).toInt = (wt_gf σ 1 2).toInt) ∧ (0 ≤ x1.toInt ∧ x1.toInt ≤ (wt_gf σ 1 2).toInt → (wt_gf σ 1 2).toInt = 0) by omega)⟩
set_option maxRecDepth 100000 in
set_option maxHeartbeats 4000000 in
theorem wq_ap_lacks (n : Nat) (hn : 4294967297 < n) (x1 : Int32) (x2 : Int32) (σ : wt_St) : wt_T (wp_ap_lacks n x1 x2 σ) (fun q => wt_fr (fun i k => False) (fun i => i = 107) σ q.2.2 ∧ (q.1 = 0 ∨ q.1 = 1 ∨ q.1 = 2)) := by
  unfold wp_ap_lacks
  refine wt_T_bi (wq_tx_has n hn x1 σ) (fun r1 h2 => ?_)
  have e3 := h2
  rw [e3]
  have bb4 := wt_bd r1.1
  have k5 : (0 : Int32).toInt = 0 := by decide
  refine wt_T_if (fun h6 => ?_) (fun h6 => ?_)
  · skip
    have c7 := wt_ceq h6
    unfold wp_ap_lacks_B16
    refine wt_T_bi (wq_ap_miss n hn (1 : Int32) σ) (fun r8 h9 => ?_)
    obtain ⟨e10, xx11⟩ := h9
    rw [e10]
    refine wt_T_if (fun h12 => ?_) (fun h12 => ?_)
    · skip
      refine wt_T_bi (wq_ap_refuseCopies n hn x2 σ) (fun r13 h14 => ?_)
      obtain ⟨e15, xx16⟩ := h14
      rw [e15]
      refine wt_T_if (fun h17 => ?_) (fun h17 => ?_)
      · skip
        refine wt_T_bi (wq_tx_spell n hn 107 x1 σ) (fun r18 h19 => ?_)
        have f20 := h19
        refine wt_T_bi (wq_sk_lacking n hn 107 40 x2 r18) (fun r21 h22 => ?_)
        have e23 := h22
        rw [e23]
        refine wt_T_some ?_
        exact ⟨(wt_fr.tr wt_fr.rf f20 (fun i k h => h.elim) (fun i h => by (try dsimp only at h); exact (by first | exact h | omega))), Or.inl rfl⟩
      · skip
        refine wt_T_some ?_
        exact ⟨wt_fr.rf, (by (try dsimp only); omega)⟩
    · skip
      refine wt_T_some ?_
      exact ⟨wt_fr.rf, (by (try dsimp only); omega)⟩
  · skip
    have c24 := wt_nceq h6
    unfold wp_ap_lacks_B16
    refine wt_T_bi (wq_ap_miss n hn (0 : Int32) σ) (fun r25 h26 => ?_)
    obtain ⟨e27, xx28⟩ := h26
    rw [e27]
    refine wt_T_if (fun h29 => ?_) (fun h29 => ?_)
    · skip
      refine wt_T_bi (wq_ap_refuseCopies n hn x2 σ) (fun r30 h31 => ?_)
      obtain ⟨e32, xx33⟩ := h31
      rw [e32]
      refine wt_T_if (fun h34 => ?_) (fun h34 => ?_)
      · skip
        refine wt_T_bi (wq_tx_spell n hn 107 x1 σ) (fun r35 h36 => ?_)
        have f37 := h36
        refine wt_T_bi (wq_sk_lacking n hn 107 40 x2 r35) (fun r38 h39 => ?_)
        have e40 := h39
        rw [e40]
        refine wt_T_some ?_
        exact ⟨(wt_fr.tr wt_fr.rf f37 (fun i k h => h.elim) (fun i h => by (try dsimp only at h); exact (by first | exact h | omega))), Or.inl rfl⟩
      · skip
        refine wt_T_some ?_
        exact ⟨wt_fr.rf, (by (try dsimp only); omega)⟩
    · skip
      refine wt_T_some ?_
      exact ⟨wt_fr.rf, (by (try dsimp only); omega)⟩
set_option maxRecDepth 100000 in
set_option maxHeartbeats 4000000 in
theorem wq_ap_least (n : Nat) (hn : 4294967297 < n) (x1 : Int32) (x2 : Int32) (x3 : Int32) (σ : wt_St) : wt_T (wp_ap_least n x1 x2 x3 σ) (fun q => wt_fr (fun i k => (i = 81 ∧ k = 9)) (fun i => i = 85 ∨ i = 82) σ q.2.2 ∧ (q.1 = 0 ∨ q.1 = 1 ∨ q.1 = 2)) := by
  unfold wp_ap_least
  refine wt_T_bi (wq_tx_has n hn x1 σ) (fun r1 h2 => ?_)
  have e3 := h2
  rw [e3]
  have bb4 := wt_bd r1.1
  have k5 : (0 : Int32).toInt = 0 := by decide
  refine wt_T_if (fun h6 => ?_) (fun h6 => ?_)
  · skip
    have c7 := wt_ceq h6
    unfold wp_ap_least_B16
    refine wt_T_bi (wq_ap_miss n hn (1 : Int32) σ) (fun r8 h9 => ?_)
    obtain ⟨e10, xx11⟩ := h9
    rw [e10]
    refine wt_T_if (fun h12 => ?_) (fun h12 => ?_)
    · skip
      have bb13 := wt_bd x3
      refine wt_T_if (fun h14 => ?_) (fun h14 => ?_)
      · skip
        have c15 := wt_clt h14
        unfold wp_ap_least_B28
        unfold wp_ap_least_B33
        refine wt_T_bi (wq_ap_refuse n hn (1 : Int32) σ) (fun r16 h17 => ?_)
        obtain ⟨e18, pp19⟩ := h17
        rw [e18]
        refine wt_T_if (fun h20 => ?_) (fun h20 => ?_)
        · skip
          refine wt_T_bi (wq_rw_findLeast n hn x1 σ) (fun r21 h22 => ?_)
          have f23 := h22
          refine wt_T_bi (wq_rw_found n hn x1 x2 x3 r21) (fun r24 h25 => ?_)
          have e26 := h25
          rw [e26]
          refine wt_T_some ?_
          exact ⟨(wt_fr.tr wt_fr.rf f23 (fun i k h => by (try dsimp only at h); exact (by first | exact h | omega)) (fun i h => by (try dsimp only at h); rcases h with h | h; exact Or.inl (by first | exact h | omega); exact Or.inr (by first | exact h | omega))), Or.inl rfl⟩
        · skip
          refine wt_T_some ?_
          exact ⟨wt_fr.rf, (by (try dsimp only); omega)⟩
      · skip
        have c27 := wt_ncl h14
        have k28 : (1 : Int32).toInt = 1 := by decide
        refine wt_T_if (fun h29 => ?_) (fun h29 => ?_)
        · skip
          have c30 := wt_cle h29
          unfold wp_ap_least_B33
          refine wt_T_bi (wq_ap_refuse n hn (0 : Int32) σ) (fun r31 h32 => ?_)
          obtain ⟨e33, pp34⟩ := h32
          rw [e33]
          refine wt_T_if (fun h35 => ?_) (fun h35 => ?_)
          · skip
            refine wt_T_bi (wq_rw_findLeast n hn x1 σ) (fun r36 h37 => ?_)
            have f38 := h37
            refine wt_T_bi (wq_rw_found n hn x1 x2 x3 r36) (fun r39 h40 => ?_)
            have e41 := h40
            rw [e41]
            refine wt_T_some ?_
            exact ⟨(wt_fr.tr wt_fr.rf f38 (fun i k h => by (try dsimp only at h); exact (by first | exact h | omega)) (fun i h => by (try dsimp only at h); rcases h with h | h; exact Or.inl (by first | exact h | omega); exact Or.inr (by first | exact h | omega))), Or.inl rfl⟩
          · skip
            refine wt_T_some ?_
            exact ⟨wt_fr.rf, (by (try dsimp only); omega)⟩
        · skip
          have c42 := wt_ncle h29
          unfold wp_ap_least_B28
          unfold wp_ap_least_B33
          refine wt_T_bi (wq_ap_refuse n hn (1 : Int32) σ) (fun r43 h44 => ?_)
          obtain ⟨e45, pp46⟩ := h44
          rw [e45]
          refine wt_T_if (fun h47 => ?_) (fun h47 => ?_)
          · skip
            refine wt_T_bi (wq_rw_findLeast n hn x1 σ) (fun r48 h49 => ?_)
            have f50 := h49
            refine wt_T_bi (wq_rw_found n hn x1 x2 x3 r48) (fun r51 h52 => ?_)
            have e53 := h52
            rw [e53]
            refine wt_T_some ?_
            exact ⟨(wt_fr.tr wt_fr.rf f50 (fun i k h => by (try dsimp only at h); exact (by first | exact h | omega)) (fun i h => by (try dsimp only at h); rcases h with h | h; exact Or.inl (by first | exact h | omega); exact Or.inr (by first | exact h | omega))), Or.inl rfl⟩
          · skip
            refine wt_T_some ?_
            exact ⟨wt_fr.rf, (by (try dsimp only); omega)⟩
    · skip
      refine wt_T_some ?_
      exact ⟨wt_fr.rf, (by (try dsimp only); omega)⟩
  · skip
    have c54 := wt_nceq h6
    unfold wp_ap_least_B16
    refine wt_T_bi (wq_ap_miss n hn (0 : Int32) σ) (fun r55 h56 => ?_)
    obtain ⟨e57, xx58⟩ := h56
    rw [e57]
    refine wt_T_if (fun h59 => ?_) (fun h59 => ?_)
    · skip
      have bb60 := wt_bd x3
      refine wt_T_if (fun h61 => ?_) (fun h61 => ?_)
      · skip
        have c62 := wt_clt h61
        unfold wp_ap_least_B28
        unfold wp_ap_least_B33
        refine wt_T_bi (wq_ap_refuse n hn (1 : Int32) σ) (fun r63 h64 => ?_)
        obtain ⟨e65, pp66⟩ := h64
        rw [e65]
        refine wt_T_if (fun h67 => ?_) (fun h67 => ?_)
        · skip
          refine wt_T_bi (wq_rw_findLeast n hn x1 σ) (fun r68 h69 => ?_)
          have f70 := h69
          refine wt_T_bi (wq_rw_found n hn x1 x2 x3 r68) (fun r71 h72 => ?_)
          have e73 := h72
          rw [e73]
          refine wt_T_some ?_
          exact ⟨(wt_fr.tr wt_fr.rf f70 (fun i k h => by (try dsimp only at h); exact (by first | exact h | omega)) (fun i h => by (try dsimp only at h); rcases h with h | h; exact Or.inl (by first | exact h | omega); exact Or.inr (by first | exact h | omega))), Or.inl rfl⟩
        · skip
          refine wt_T_some ?_
          exact ⟨wt_fr.rf, (by (try dsimp only); omega)⟩
      · skip
        have c74 := wt_ncl h61
        have k75 : (1 : Int32).toInt = 1 := by decide
        refine wt_T_if (fun h76 => ?_) (fun h76 => ?_)
        · skip
          have c77 := wt_cle h76
          unfold wp_ap_least_B33
          refine wt_T_bi (wq_ap_refuse n hn (0 : Int32) σ) (fun r78 h79 => ?_)
          obtain ⟨e80, pp81⟩ := h79
          rw [e80]
          refine wt_T_if (fun h82 => ?_) (fun h82 => ?_)
          · skip
            refine wt_T_bi (wq_rw_findLeast n hn x1 σ) (fun r83 h84 => ?_)
            have f85 := h84
            refine wt_T_bi (wq_rw_found n hn x1 x2 x3 r83) (fun r86 h87 => ?_)
            have e88 := h87
            rw [e88]
            refine wt_T_some ?_
            exact ⟨(wt_fr.tr wt_fr.rf f85 (fun i k h => by (try dsimp only at h); exact (by first | exact h | omega)) (fun i h => by (try dsimp only at h); rcases h with h | h; exact Or.inl (by first | exact h | omega); exact Or.inr (by first | exact h | omega))), Or.inl rfl⟩
          · skip
            refine wt_T_some ?_
            exact ⟨wt_fr.rf, (by (try dsimp only); omega)⟩
        · skip
          have c89 := wt_ncle h76
          unfold wp_ap_least_B28
          unfold wp_ap_least_B33
          refine wt_T_bi (wq_ap_refuse n hn (1 : Int32) σ) (fun r90 h91 => ?_)
          obtain ⟨e92, pp93⟩ := h91
          rw [e92]
          refine wt_T_if (fun h94 => ?_) (fun h94 => ?_)
          · skip
            refine wt_T_bi (wq_rw_findLeast n hn x1 σ) (fun r95 h96 => ?_)
            have f97 := h96
            refine wt_T_bi (wq_rw_found n hn x1 x2 x3 r95) (fun r98 h99 => ?_)
            have e100 := h99
            rw [e100]
            refine wt_T_some ?_
            exact ⟨(wt_fr.tr wt_fr.rf f97 (fun i k h => by (try dsimp only at h); exact (by first | exact h | omega)) (fun i h => by (try dsimp only at h); rcases h with h | h; exact Or.inl (by first | exact h | omega); exact Or.inr (by first | exact h | omega))), Or.inl rfl⟩
          · skip
            refine wt_T_some ?_
            exact ⟨wt_fr.rf, (by (try dsimp only); omega)⟩
    · skip
      refine wt_T_some ?_
      exact ⟨wt_fr.rf, (by (try dsimp only); omega)⟩
set_option maxRecDepth 100000 in
set_option maxHeartbeats 4000000 in
theorem wq_ap_letter (n : Nat) (hn : 4294967297 < n) (x1 : Int32) (x2 : Int32) (σ : wt_St) : wt_T (wp_ap_letter n x1 x2 σ) (fun q => q.2.2 = σ ∧ (q.1 = 0 ∨ q.1 = 1)) := by
  unfold wp_ap_letter
  have bb1 := wt_bd x1
  have k2 : (0 : Int32).toInt = 0 := by decide
  refine wt_T_if (fun h3 => ?_) (fun h3 => ?_)
  · skip
    have c4 := wt_clt h3
    unfold wp_ap_letter_B10
    unfold wp_ap_letter_B15
    refine wt_T_bi (wq_ap_refuse n hn (1 : Int32) σ) (fun r5 h6 => ?_)
    obtain ⟨e7, pp8⟩ := h6
    rw [e7]
    refine wt_T_if (fun h9 => ?_) (fun h9 => ?_)
    · skip
      have bb10 := wt_bd x2
      refine wt_T_if (fun h11 => ?_) (fun h11 => ?_)
      · skip
        have c12 := wt_ceq h11
        refine wt_T_bi (wq_sk_pieces n hn x1 σ) (fun r13 h14 => ?_)
        obtain ⟨e15, e15v⟩ := h14
        have e16 := wt_ceq e15v
        have bb17 := wt_bd (wt_lk 5 x1 σ)
        have bb18 := wt_bd r13.1
        rw [e15]
        refine wt_T_some ?_
        exact ⟨rfl, Or.inl rfl⟩
      · skip
        have c19 := wt_nceq h11
        have k20 : (1 : Int32).toInt = 1 := by decide
        refine wt_T_if (fun h21 => ?_) (fun h21 => ?_)
        · skip
          have c22 := wt_ceq h21
          refine wt_T_bi (wq_sk_inCase n hn x1 σ) (fun r23 h24 => ?_)
          have e25 := h24
          rw [e25]
          refine wt_T_some ?_
          exact ⟨rfl, Or.inl rfl⟩
        · skip
          have c26 := wt_nceq h21
          have k27 : (2 : Int32).toInt = 2 := by decide
          refine wt_T_if (fun h28 => ?_) (fun h28 => ?_)
          · skip
            have c29 := wt_ceq h28
            refine wt_T_bi (wq_sk_leftOfAll n hn x1 σ) (fun r30 h31 => ?_)
            have e32 := h31
            rw [e32]
            refine wt_T_some ?_
            exact ⟨rfl, Or.inl rfl⟩
          · skip
            have c33 := wt_nceq h28
            have k34 : (3 : Int32).toInt = 3 := by decide
            refine wt_T_if (fun h35 => ?_) (fun h35 => ?_)
            · skip
              have c36 := wt_ceq h35
              refine wt_T_bi (wq_sk_mostLeft n hn x1 σ) (fun r37 h38 => ?_)
              have e39 := h38
              rw [e39]
              refine wt_T_some ?_
              exact ⟨rfl, Or.inl rfl⟩
            · skip
              have c40 := wt_nceq h35
              have k41 : (4 : Int32).toInt = 4 := by decide
              refine wt_T_if (fun h42 => ?_) (fun h42 => ?_)
              · skip
                have c43 := wt_ceq h42
                refine wt_T_bi (wq_sk_wornOut n hn x1 σ) (fun r44 h45 => ?_)
                have e46 := h45
                rw [e46]
                refine wt_T_some ?_
                exact ⟨rfl, Or.inl rfl⟩
              · skip
                have c47 := wt_nceq h42
                have k48 : (5 : Int32).toInt = 5 := by decide
                refine wt_T_if (fun h49 => ?_) (fun h49 => ?_)
                · skip
                  have c50 := wt_ceq h49
                  refine wt_T_bi (wq_ap_look n hn 9 x1 σ) (fun r51 h52 => ?_)
                  obtain ⟨e53, e53v⟩ := h52
                  have e54 := wt_ceq e53v
                  have bb55 := wt_bd (wt_lk 9 x1 σ)
                  have bb56 := wt_bd r51.1
                  rw [e53]
                  refine wt_T_some ?_
                  exact ⟨rfl, Or.inl rfl⟩
                · skip
                  have c57 := wt_nceq h49
                  have k58 : (6 : Int32).toInt = 6 := by decide
                  refine wt_T_if (fun h59 => ?_) (fun h59 => ?_)
                  · skip
                    have c60 := wt_ceq h59
                    refine wt_T_bi (wq_ap_look n hn 10 x1 σ) (fun r61 h62 => ?_)
                    obtain ⟨e63, e63v⟩ := h62
                    have e64 := wt_ceq e63v
                    have bb65 := wt_bd (wt_lk 10 x1 σ)
                    have bb66 := wt_bd r61.1
                    rw [e63]
                    refine wt_T_some ?_
                    exact ⟨rfl, Or.inl rfl⟩
                  · skip
                    have c67 := wt_nceq h59
                    have k68 : (7 : Int32).toInt = 7 := by decide
                    refine wt_T_if (fun h69 => ?_) (fun h69 => ?_)
                    · skip
                      have c70 := wt_ceq h69
                      refine wt_T_bi (wq_ap_look n hn 7 x1 σ) (fun r71 h72 => ?_)
                      obtain ⟨e73, e73v⟩ := h72
                      have e74 := wt_ceq e73v
                      have bb75 := wt_bd (wt_lk 7 x1 σ)
                      have bb76 := wt_bd r71.1
                      rw [e73]
                      refine wt_T_some ?_
                      exact ⟨rfl, Or.inl rfl⟩
                    · skip
                      have c77 := wt_nceq h69
                      refine wt_T_some ?_
                      exact ⟨rfl, Or.inr (rfl)⟩
    · skip
      refine wt_T_some ?_
      exact ⟨rfl, (by (try dsimp only); omega)⟩
  · skip
    have c78 := wt_ncl h3
    have k79 : (26 : Int32).toInt = 26 := by decide
    refine wt_T_if (fun h80 => ?_) (fun h80 => ?_)
    · skip
      have c81 := wt_clt h80
      unfold wp_ap_letter_B15
      refine wt_T_bi (wq_ap_refuse n hn (0 : Int32) σ) (fun r82 h83 => ?_)
      obtain ⟨e84, pp85⟩ := h83
      rw [e84]
      refine wt_T_if (fun h86 => ?_) (fun h86 => ?_)
      · skip
        have bb87 := wt_bd x2
        refine wt_T_if (fun h88 => ?_) (fun h88 => ?_)
        · skip
          have c89 := wt_ceq h88
          refine wt_T_bi (wq_sk_pieces n hn x1 σ) (fun r90 h91 => ?_)
          obtain ⟨e92, e92v⟩ := h91
          have e93 := wt_ceq e92v
          have bb94 := wt_bd (wt_lk 5 x1 σ)
          have bb95 := wt_bd r90.1
          rw [e92]
          refine wt_T_some ?_
          exact ⟨rfl, Or.inl rfl⟩
        · skip
          have c96 := wt_nceq h88
          have k97 : (1 : Int32).toInt = 1 := by decide
          refine wt_T_if (fun h98 => ?_) (fun h98 => ?_)
          · skip
            have c99 := wt_ceq h98
            refine wt_T_bi (wq_sk_inCase n hn x1 σ) (fun r100 h101 => ?_)
            have e102 := h101
            rw [e102]
            refine wt_T_some ?_
            exact ⟨rfl, Or.inl rfl⟩
          · skip
            have c103 := wt_nceq h98
            have k104 : (2 : Int32).toInt = 2 := by decide
            refine wt_T_if (fun h105 => ?_) (fun h105 => ?_)
            · skip
              have c106 := wt_ceq h105
              refine wt_T_bi (wq_sk_leftOfAll n hn x1 σ) (fun r107 h108 => ?_)
              have e109 := h108
              rw [e109]
              refine wt_T_some ?_
              exact ⟨rfl, Or.inl rfl⟩
            · skip
              have c110 := wt_nceq h105
              have k111 : (3 : Int32).toInt = 3 := by decide
              refine wt_T_if (fun h112 => ?_) (fun h112 => ?_)
              · skip
                have c113 := wt_ceq h112
                refine wt_T_bi (wq_sk_mostLeft n hn x1 σ) (fun r114 h115 => ?_)
                have e116 := h115
                rw [e116]
                refine wt_T_some ?_
                exact ⟨rfl, Or.inl rfl⟩
              · skip
                have c117 := wt_nceq h112
                have k118 : (4 : Int32).toInt = 4 := by decide
                refine wt_T_if (fun h119 => ?_) (fun h119 => ?_)
                · skip
                  have c120 := wt_ceq h119
                  refine wt_T_bi (wq_sk_wornOut n hn x1 σ) (fun r121 h122 => ?_)
                  have e123 := h122
                  rw [e123]
                  refine wt_T_some ?_
                  exact ⟨rfl, Or.inl rfl⟩
                · skip
                  have c124 := wt_nceq h119
                  have k125 : (5 : Int32).toInt = 5 := by decide
                  refine wt_T_if (fun h126 => ?_) (fun h126 => ?_)
                  · skip
                    have c127 := wt_ceq h126
                    refine wt_T_bi (wq_ap_look n hn 9 x1 σ) (fun r128 h129 => ?_)
                    obtain ⟨e130, e130v⟩ := h129
                    have e131 := wt_ceq e130v
                    have bb132 := wt_bd (wt_lk 9 x1 σ)
                    have bb133 := wt_bd r128.1
                    rw [e130]
                    refine wt_T_some ?_
                    exact ⟨rfl, Or.inl rfl⟩
                  · skip
                    have c134 := wt_nceq h126
                    have k135 : (6 : Int32).toInt = 6 := by decide
                    refine wt_T_if (fun h136 => ?_) (fun h136 => ?_)
                    · skip
                      have c137 := wt_ceq h136
                      refine wt_T_bi (wq_ap_look n hn 10 x1 σ) (fun r138 h139 => ?_)
                      obtain ⟨e140, e140v⟩ := h139
                      have e141 := wt_ceq e140v
                      have bb142 := wt_bd (wt_lk 10 x1 σ)
                      have bb143 := wt_bd r138.1
                      rw [e140]
                      refine wt_T_some ?_
                      exact ⟨rfl, Or.inl rfl⟩
                    · skip
                      have c144 := wt_nceq h136
                      have k145 : (7 : Int32).toInt = 7 := by decide
                      refine wt_T_if (fun h146 => ?_) (fun h146 => ?_)
                      · skip
                        have c147 := wt_ceq h146
                        refine wt_T_bi (wq_ap_look n hn 7 x1 σ) (fun r148 h149 => ?_)
                        obtain ⟨e150, e150v⟩ := h149
                        have e151 := wt_ceq e150v
                        have bb152 := wt_bd (wt_lk 7 x1 σ)
                        have bb153 := wt_bd r148.1
                        rw [e150]
                        refine wt_T_some ?_
                        exact ⟨rfl, Or.inl rfl⟩
                      · skip
                        have c154 := wt_nceq h146
                        refine wt_T_some ?_
                        exact ⟨rfl, Or.inr (rfl)⟩
      · skip
        refine wt_T_some ?_
        exact ⟨rfl, (by (try dsimp only); omega)⟩
    · skip
      have c155 := wt_ncl h80
      unfold wp_ap_letter_B10
      unfold wp_ap_letter_B15
      refine wt_T_bi (wq_ap_refuse n hn (1 : Int32) σ) (fun r156 h157 => ?_)
      obtain ⟨e158, pp159⟩ := h157
      rw [e158]
      refine wt_T_if (fun h160 => ?_) (fun h160 => ?_)
      · skip
        have bb161 := wt_bd x2
        refine wt_T_if (fun h162 => ?_) (fun h162 => ?_)
        · skip
          have c163 := wt_ceq h162
          refine wt_T_bi (wq_sk_pieces n hn x1 σ) (fun r164 h165 => ?_)
          obtain ⟨e166, e166v⟩ := h165
          have e167 := wt_ceq e166v
          have bb168 := wt_bd (wt_lk 5 x1 σ)
          have bb169 := wt_bd r164.1
          rw [e166]
          refine wt_T_some ?_
          exact ⟨rfl, Or.inl rfl⟩
        · skip
          have c170 := wt_nceq h162
          have k171 : (1 : Int32).toInt = 1 := by decide
          refine wt_T_if (fun h172 => ?_) (fun h172 => ?_)
          · skip
            have c173 := wt_ceq h172
            refine wt_T_bi (wq_sk_inCase n hn x1 σ) (fun r174 h175 => ?_)
            have e176 := h175
            rw [e176]
            refine wt_T_some ?_
            exact ⟨rfl, Or.inl rfl⟩
          · skip
            have c177 := wt_nceq h172
            have k178 : (2 : Int32).toInt = 2 := by decide
            refine wt_T_if (fun h179 => ?_) (fun h179 => ?_)
            · skip
              have c180 := wt_ceq h179
              refine wt_T_bi (wq_sk_leftOfAll n hn x1 σ) (fun r181 h182 => ?_)
              have e183 := h182
              rw [e183]
              refine wt_T_some ?_
              exact ⟨rfl, Or.inl rfl⟩
            · skip
              have c184 := wt_nceq h179
              have k185 : (3 : Int32).toInt = 3 := by decide
              refine wt_T_if (fun h186 => ?_) (fun h186 => ?_)
              · skip
                have c187 := wt_ceq h186
                refine wt_T_bi (wq_sk_mostLeft n hn x1 σ) (fun r188 h189 => ?_)
                have e190 := h189
                rw [e190]
                refine wt_T_some ?_
                exact ⟨rfl, Or.inl rfl⟩
              · skip
                have c191 := wt_nceq h186
                have k192 : (4 : Int32).toInt = 4 := by decide
                refine wt_T_if (fun h193 => ?_) (fun h193 => ?_)
                · skip
                  have c194 := wt_ceq h193
                  refine wt_T_bi (wq_sk_wornOut n hn x1 σ) (fun r195 h196 => ?_)
                  have e197 := h196
                  rw [e197]
                  refine wt_T_some ?_
                  exact ⟨rfl, Or.inl rfl⟩
                · skip
                  have c198 := wt_nceq h193
                  have k199 : (5 : Int32).toInt = 5 := by decide
                  refine wt_T_if (fun h200 => ?_) (fun h200 => ?_)
                  · skip
                    have c201 := wt_ceq h200
                    refine wt_T_bi (wq_ap_look n hn 9 x1 σ) (fun r202 h203 => ?_)
                    obtain ⟨e204, e204v⟩ := h203
                    have e205 := wt_ceq e204v
                    have bb206 := wt_bd (wt_lk 9 x1 σ)
                    have bb207 := wt_bd r202.1
                    rw [e204]
                    refine wt_T_some ?_
                    exact ⟨rfl, Or.inl rfl⟩
                  · skip
                    have c208 := wt_nceq h200
                    have k209 : (6 : Int32).toInt = 6 := by decide
                    refine wt_T_if (fun h210 => ?_) (fun h210 => ?_)
                    · skip
                      have c211 := wt_ceq h210
                      refine wt_T_bi (wq_ap_look n hn 10 x1 σ) (fun r212 h213 => ?_)
                      obtain ⟨e214, e214v⟩ := h213
                      have e215 := wt_ceq e214v
                      have bb216 := wt_bd (wt_lk 10 x1 σ)
                      have bb217 := wt_bd r212.1
                      rw [e214]
                      refine wt_T_some ?_
                      exact ⟨rfl, Or.inl rfl⟩
                    · skip
                      have c218 := wt_nceq h210
                      have k219 : (7 : Int32).toInt = 7 := by decide
                      refine wt_T_if (fun h220 => ?_) (fun h220 => ?_)
                      · skip
                        have c221 := wt_ceq h220
                        refine wt_T_bi (wq_ap_look n hn 7 x1 σ) (fun r222 h223 => ?_)
                        obtain ⟨e224, e224v⟩ := h223
                        have e225 := wt_ceq e224v
                        have bb226 := wt_bd (wt_lk 7 x1 σ)
                        have bb227 := wt_bd r222.1
                        rw [e224]
                        refine wt_T_some ?_
                        exact ⟨rfl, Or.inl rfl⟩
                      · skip
                        have c228 := wt_nceq h220
                        refine wt_T_some ?_
                        exact ⟨rfl, Or.inr (rfl)⟩
      · skip
        refine wt_T_some ?_
        exact ⟨rfl, (by (try dsimp only); omega)⟩
set_option maxRecDepth 100000 in
set_option maxHeartbeats 4000000 in
theorem wq_ap_lost (n : Nat) (hn : 4294967297 < n) (x1 : Int32) (σ : wt_St) : wt_T (wp_ap_lost n x1 σ) (fun q => wt_fr (fun i k => (i = 86 ∧ k = 8) ∨ (i = 86 ∧ k = 9)) (fun i => i = 99 ∨ i = 98 ∨ i = 100) σ q.2.2 ∧ (q.1 = 0 ∨ q.1 = 1)) := by
  unfold wp_ap_lost
  have bb1 := wt_bd x1
  have k2 : (0 : Int32).toInt = 0 := by decide
  refine wt_T_if (fun h3 => ?_) (fun h3 => ?_)
  · skip
    have c4 := wt_clt h3
    unfold wp_ap_lost_B10
    unfold wp_ap_lost_B15
    refine wt_T_bi (wq_ap_refuse n hn (1 : Int32) σ) (fun r5 h6 => ?_)
    obtain ⟨e7, pp8⟩ := h6
    rw [e7]
    refine wt_T_if (fun h9 => ?_) (fun h9 => ?_)
    · skip
      refine wt_T_bi (wq_wk_printGreedily n hn x1 σ) (fun r10 h11 => ?_)
      have f12 := h11
      refine wt_T_bi (wq_wk_wordsLost n hn r10) (fun r13 h14 => ?_)
      have f15 := h14
      refine wt_T_some ?_
      exact ⟨(wt_fr.tr (wt_fr.tr wt_fr.rf f12 (fun i k h => by (try dsimp only at h); rcases h with h | h; exact Or.inl (by first | exact h | omega); exact Or.inr (by first | exact h | omega)) (fun i h => by (try dsimp only at h); rcases h with h | h | h; exact Or.inl (by first | exact h | omega); exact Or.inr (Or.inl (by first | exact h | omega)); exact Or.inr (Or.inr (by first | exact h | omega)))) f15 (fun i k h => h.elim) (fun i h => by (try dsimp only at h); exact Or.inr (Or.inr (by first | exact h | omega)))), Or.inl rfl⟩
    · skip
      refine wt_T_some ?_
      exact ⟨wt_fr.rf, (by (try dsimp only); omega)⟩
  · skip
    have c16 := wt_ncl h3
    have k17 : (100 : Int32).toInt = 100 := by decide
    refine wt_T_if (fun h18 => ?_) (fun h18 => ?_)
    · skip
      have c19 := wt_cle h18
      unfold wp_ap_lost_B15
      refine wt_T_bi (wq_ap_refuse n hn (0 : Int32) σ) (fun r20 h21 => ?_)
      obtain ⟨e22, pp23⟩ := h21
      rw [e22]
      refine wt_T_if (fun h24 => ?_) (fun h24 => ?_)
      · skip
        refine wt_T_bi (wq_wk_printGreedily n hn x1 σ) (fun r25 h26 => ?_)
        have f27 := h26
        refine wt_T_bi (wq_wk_wordsLost n hn r25) (fun r28 h29 => ?_)
        have f30 := h29
        refine wt_T_some ?_
        exact ⟨(wt_fr.tr (wt_fr.tr wt_fr.rf f27 (fun i k h => by (try dsimp only at h); rcases h with h | h; exact Or.inl (by first | exact h | omega); exact Or.inr (by first | exact h | omega)) (fun i h => by (try dsimp only at h); rcases h with h | h | h; exact Or.inl (by first | exact h | omega); exact Or.inr (Or.inl (by first | exact h | omega)); exact Or.inr (Or.inr (by first | exact h | omega)))) f30 (fun i k h => h.elim) (fun i h => by (try dsimp only at h); exact Or.inr (Or.inr (by first | exact h | omega)))), Or.inl rfl⟩
      · skip
        refine wt_T_some ?_
        exact ⟨wt_fr.rf, (by (try dsimp only); omega)⟩
    · skip
      have c31 := wt_ncle h18
      unfold wp_ap_lost_B10
      unfold wp_ap_lost_B15
      refine wt_T_bi (wq_ap_refuse n hn (1 : Int32) σ) (fun r32 h33 => ?_)
      obtain ⟨e34, pp35⟩ := h33
      rw [e34]
      refine wt_T_if (fun h36 => ?_) (fun h36 => ?_)
      · skip
        refine wt_T_bi (wq_wk_printGreedily n hn x1 σ) (fun r37 h38 => ?_)
        have f39 := h38
        refine wt_T_bi (wq_wk_wordsLost n hn r37) (fun r40 h41 => ?_)
        have f42 := h41
        refine wt_T_some ?_
        exact ⟨(wt_fr.tr (wt_fr.tr wt_fr.rf f39 (fun i k h => by (try dsimp only at h); rcases h with h | h; exact Or.inl (by first | exact h | omega); exact Or.inr (by first | exact h | omega)) (fun i h => by (try dsimp only at h); rcases h with h | h | h; exact Or.inl (by first | exact h | omega); exact Or.inr (Or.inl (by first | exact h | omega)); exact Or.inr (Or.inr (by first | exact h | omega)))) f42 (fun i k h => h.elim) (fun i h => by (try dsimp only at h); exact Or.inr (Or.inr (by first | exact h | omega)))), Or.inl rfl⟩
      · skip
        refine wt_T_some ?_
        exact ⟨wt_fr.rf, (by (try dsimp only); omega)⟩
set_option maxRecDepth 100000 in
set_option maxHeartbeats 4000000 in
theorem wq_ap_most (n : Nat) (hn : 4294967297 < n) (x1 : Int32) (σ : wt_St) : wt_T (wp_ap_most n x1 σ) (fun q => wt_fr (fun i k => (i = 86 ∧ k = 8) ∨ (i = 86 ∧ k = 9) ∨ (i = 86 ∧ k = 10)) (fun i => i = 99 ∨ (88 ≤ i ∧ i < 98) ∨ i = 100) σ q.2.2 ∧ (q.1 = 0 ∨ q.1 = 1)) := by
  unfold wp_ap_most
  have bb1 := wt_bd x1
  have k2 : (0 : Int32).toInt = 0 := by decide
  refine wt_T_if (fun h3 => ?_) (fun h3 => ?_)
  · skip
    have c4 := wt_clt h3
    unfold wp_ap_most_B9
    unfold wp_ap_most_B14
    refine wt_T_bi (wq_ap_refuse n hn (1 : Int32) σ) (fun r5 h6 => ?_)
    obtain ⟨e7, pp8⟩ := h6
    rw [e7]
    refine wt_T_if (fun h9 => ?_) (fun h9 => ?_)
    · skip
      refine wt_T_bi (wq_wk_findMost n hn σ) (fun r10 h11 => ?_)
      have f12 := h11
      have k13 : (2 : Int32).toInt = 2 := by decide
      refine wt_T_if (fun h14 => ?_) (fun h14 => ?_)
      · skip
        have c15 := wt_ceq h14
        refine wt_T_some ?_
        exact ⟨(wt_fr.tr wt_fr.rf f12 (fun i k h => by (try dsimp only at h); rcases h with h | h | h; exact Or.inl (by first | exact h | omega); exact Or.inr (Or.inl (by first | exact h | omega)); exact Or.inr (Or.inr (by first | exact h | omega))) (fun i h => by (try dsimp only at h); rcases h with h | h | h; exact Or.inl (by first | exact h | omega); exact Or.inr (Or.inl (by first | exact h | omega)); exact Or.inr (Or.inr (by first | exact h | omega)))), Or.inl rfl⟩
      · skip
        have c16 := wt_nceq h14
        refine wt_T_if (fun h17 => ?_) (fun h17 => ?_)
        · skip
          have c18 := wt_ceq h17
          refine wt_T_some ?_
          exact ⟨(wt_fr.tr wt_fr.rf f12 (fun i k h => by (try dsimp only at h); rcases h with h | h | h; exact Or.inl (by first | exact h | omega); exact Or.inr (Or.inl (by first | exact h | omega)); exact Or.inr (Or.inr (by first | exact h | omega))) (fun i h => by (try dsimp only at h); rcases h with h | h | h; exact Or.inl (by first | exact h | omega); exact Or.inr (Or.inl (by first | exact h | omega)); exact Or.inr (Or.inr (by first | exact h | omega)))), Or.inl rfl⟩
        · skip
          have c19 := wt_nceq h17
          refine wt_T_some ?_
          exact ⟨(wt_fr.tr wt_fr.rf f12 (fun i k h => by (try dsimp only at h); rcases h with h | h | h; exact Or.inl (by first | exact h | omega); exact Or.inr (Or.inl (by first | exact h | omega)); exact Or.inr (Or.inr (by first | exact h | omega))) (fun i h => by (try dsimp only at h); rcases h with h | h | h; exact Or.inl (by first | exact h | omega); exact Or.inr (Or.inl (by first | exact h | omega)); exact Or.inr (Or.inr (by first | exact h | omega)))), Or.inl rfl⟩
    · skip
      refine wt_T_some ?_
      exact ⟨wt_fr.rf, (by (try dsimp only); omega)⟩
  · skip
    have c20 := wt_ncl h3
    have k21 : (2 : Int32).toInt = 2 := by decide
    refine wt_T_if (fun h22 => ?_) (fun h22 => ?_)
    · skip
      have c23 := wt_cle h22
      unfold wp_ap_most_B14
      refine wt_T_bi (wq_ap_refuse n hn (0 : Int32) σ) (fun r24 h25 => ?_)
      obtain ⟨e26, pp27⟩ := h25
      rw [e26]
      refine wt_T_if (fun h28 => ?_) (fun h28 => ?_)
      · skip
        refine wt_T_bi (wq_wk_findMost n hn σ) (fun r29 h30 => ?_)
        have f31 := h30
        refine wt_T_if (fun h32 => ?_) (fun h32 => ?_)
        · skip
          have c33 := wt_ceq h32
          refine wt_T_some ?_
          exact ⟨(wt_fr.tr wt_fr.rf f31 (fun i k h => by (try dsimp only at h); rcases h with h | h | h; exact Or.inl (by first | exact h | omega); exact Or.inr (Or.inl (by first | exact h | omega)); exact Or.inr (Or.inr (by first | exact h | omega))) (fun i h => by (try dsimp only at h); rcases h with h | h | h; exact Or.inl (by first | exact h | omega); exact Or.inr (Or.inl (by first | exact h | omega)); exact Or.inr (Or.inr (by first | exact h | omega)))), Or.inl rfl⟩
        · skip
          have c34 := wt_nceq h32
          refine wt_T_if (fun h35 => ?_) (fun h35 => ?_)
          · skip
            have c36 := wt_ceq h35
            refine wt_T_some ?_
            exact ⟨(wt_fr.tr wt_fr.rf f31 (fun i k h => by (try dsimp only at h); rcases h with h | h | h; exact Or.inl (by first | exact h | omega); exact Or.inr (Or.inl (by first | exact h | omega)); exact Or.inr (Or.inr (by first | exact h | omega))) (fun i h => by (try dsimp only at h); rcases h with h | h | h; exact Or.inl (by first | exact h | omega); exact Or.inr (Or.inl (by first | exact h | omega)); exact Or.inr (Or.inr (by first | exact h | omega)))), Or.inl rfl⟩
          · skip
            have c37 := wt_nceq h35
            refine wt_T_some ?_
            exact ⟨(wt_fr.tr wt_fr.rf f31 (fun i k h => by (try dsimp only at h); rcases h with h | h | h; exact Or.inl (by first | exact h | omega); exact Or.inr (Or.inl (by first | exact h | omega)); exact Or.inr (Or.inr (by first | exact h | omega))) (fun i h => by (try dsimp only at h); rcases h with h | h | h; exact Or.inl (by first | exact h | omega); exact Or.inr (Or.inl (by first | exact h | omega)); exact Or.inr (Or.inr (by first | exact h | omega)))), Or.inl rfl⟩
      · skip
        refine wt_T_some ?_
        exact ⟨wt_fr.rf, (by (try dsimp only); omega)⟩
    · skip
      have c38 := wt_ncle h22
      unfold wp_ap_most_B9
      unfold wp_ap_most_B14
      refine wt_T_bi (wq_ap_refuse n hn (1 : Int32) σ) (fun r39 h40 => ?_)
      obtain ⟨e41, pp42⟩ := h40
      rw [e41]
      refine wt_T_if (fun h43 => ?_) (fun h43 => ?_)
      · skip
        refine wt_T_bi (wq_wk_findMost n hn σ) (fun r44 h45 => ?_)
        have f46 := h45
        refine wt_T_if (fun h47 => ?_) (fun h47 => ?_)
        · skip
          have c48 := wt_ceq h47
          refine wt_T_some ?_
          exact ⟨(wt_fr.tr wt_fr.rf f46 (fun i k h => by (try dsimp only at h); rcases h with h | h | h; exact Or.inl (by first | exact h | omega); exact Or.inr (Or.inl (by first | exact h | omega)); exact Or.inr (Or.inr (by first | exact h | omega))) (fun i h => by (try dsimp only at h); rcases h with h | h | h; exact Or.inl (by first | exact h | omega); exact Or.inr (Or.inl (by first | exact h | omega)); exact Or.inr (Or.inr (by first | exact h | omega)))), Or.inl rfl⟩
        · skip
          have c49 := wt_nceq h47
          refine wt_T_if (fun h50 => ?_) (fun h50 => ?_)
          · skip
            have c51 := wt_ceq h50
            refine wt_T_some ?_
            exact ⟨(wt_fr.tr wt_fr.rf f46 (fun i k h => by (try dsimp only at h); rcases h with h | h | h; exact Or.inl (by first | exact h | omega); exact Or.inr (Or.inl (by first | exact h | omega)); exact Or.inr (Or.inr (by first | exact h | omega))) (fun i h => by (try dsimp only at h); rcases h with h | h | h; exact Or.inl (by first | exact h | omega); exact Or.inr (Or.inl (by first | exact h | omega)); exact Or.inr (Or.inr (by first | exact h | omega)))), Or.inl rfl⟩
          · skip
            have c52 := wt_nceq h50
            refine wt_T_some ?_
            exact ⟨(wt_fr.tr wt_fr.rf f46 (fun i k h => by (try dsimp only at h); rcases h with h | h | h; exact Or.inl (by first | exact h | omega); exact Or.inr (Or.inl (by first | exact h | omega)); exact Or.inr (Or.inr (by first | exact h | omega))) (fun i h => by (try dsimp only at h); rcases h with h | h | h; exact Or.inl (by first | exact h | omega); exact Or.inr (Or.inl (by first | exact h | omega)); exact Or.inr (Or.inr (by first | exact h | omega)))), Or.inl rfl⟩
      · skip
        refine wt_T_some ?_
        exact ⟨wt_fr.rf, (by (try dsimp only); omega)⟩
set_option maxRecDepth 100000 in
set_option maxHeartbeats 4000000 in
theorem wq_ap_needs (n : Nat) (hn : 4294967297 < n) (x1 : Int32) (x2 : Int32) (σ : wt_St) : wt_T (wp_ap_needs n x1 x2 σ) (fun q => q.2.2 = σ ∧ (q.1 = 0 ∨ q.1 = 1 ∨ q.1 = 2)) := by
  unfold wp_ap_needs
  have bb1 := wt_bd x2
  have k2 : (0 : Int32).toInt = 0 := by decide
  refine wt_T_if (fun h3 => ?_) (fun h3 => ?_)
  · skip
    have c4 := wt_clt h3
    unfold wp_ap_needs_B10
    unfold wp_ap_needs_B15
    refine wt_T_bi (wq_ap_refuse n hn (1 : Int32) σ) (fun r5 h6 => ?_)
    obtain ⟨e7, pp8⟩ := h6
    rw [e7]
    refine wt_T_if (fun h9 => ?_) (fun h9 => ?_)
    · skip
      refine wt_T_bi (wq_tx_has n hn x1 σ) (fun r10 h11 => ?_)
      have e12 := h11
      rw [e12]
      have bb13 := wt_bd r10.1
      refine wt_T_if (fun h14 => ?_) (fun h14 => ?_)
      · skip
        have c15 := wt_ceq h14
        unfold wp_ap_needs_B34
        refine wt_T_bi (wq_ap_miss n hn (1 : Int32) σ) (fun r16 h17 => ?_)
        obtain ⟨e18, xx19⟩ := h17
        rw [e18]
        refine wt_T_if (fun h20 => ?_) (fun h20 => ?_)
        · skip
          refine wt_T_bi (wq_tx_needOf n hn x1 x2 σ) (fun r21 h22 => ?_)
          have e23 := h22
          rw [e23]
          refine wt_T_some ?_
          exact ⟨rfl, Or.inl rfl⟩
        · skip
          refine wt_T_some ?_
          exact ⟨rfl, (by (try dsimp only); omega)⟩
      · skip
        have c24 := wt_nceq h14
        unfold wp_ap_needs_B34
        refine wt_T_bi (wq_ap_miss n hn (0 : Int32) σ) (fun r25 h26 => ?_)
        obtain ⟨e27, xx28⟩ := h26
        rw [e27]
        refine wt_T_if (fun h29 => ?_) (fun h29 => ?_)
        · skip
          refine wt_T_bi (wq_tx_needOf n hn x1 x2 σ) (fun r30 h31 => ?_)
          have e32 := h31
          rw [e32]
          refine wt_T_some ?_
          exact ⟨rfl, Or.inl rfl⟩
        · skip
          refine wt_T_some ?_
          exact ⟨rfl, (by (try dsimp only); omega)⟩
    · skip
      refine wt_T_some ?_
      exact ⟨rfl, (by (try dsimp only); omega)⟩
  · skip
    have c33 := wt_ncl h3
    have k34 : (26 : Int32).toInt = 26 := by decide
    refine wt_T_if (fun h35 => ?_) (fun h35 => ?_)
    · skip
      have c36 := wt_clt h35
      unfold wp_ap_needs_B15
      refine wt_T_bi (wq_ap_refuse n hn (0 : Int32) σ) (fun r37 h38 => ?_)
      obtain ⟨e39, pp40⟩ := h38
      rw [e39]
      refine wt_T_if (fun h41 => ?_) (fun h41 => ?_)
      · skip
        refine wt_T_bi (wq_tx_has n hn x1 σ) (fun r42 h43 => ?_)
        have e44 := h43
        rw [e44]
        have bb45 := wt_bd r42.1
        refine wt_T_if (fun h46 => ?_) (fun h46 => ?_)
        · skip
          have c47 := wt_ceq h46
          unfold wp_ap_needs_B34
          refine wt_T_bi (wq_ap_miss n hn (1 : Int32) σ) (fun r48 h49 => ?_)
          obtain ⟨e50, xx51⟩ := h49
          rw [e50]
          refine wt_T_if (fun h52 => ?_) (fun h52 => ?_)
          · skip
            refine wt_T_bi (wq_tx_needOf n hn x1 x2 σ) (fun r53 h54 => ?_)
            have e55 := h54
            rw [e55]
            refine wt_T_some ?_
            exact ⟨rfl, Or.inl rfl⟩
          · skip
            refine wt_T_some ?_
            exact ⟨rfl, (by (try dsimp only); omega)⟩
        · skip
          have c56 := wt_nceq h46
          unfold wp_ap_needs_B34
          refine wt_T_bi (wq_ap_miss n hn (0 : Int32) σ) (fun r57 h58 => ?_)
          obtain ⟨e59, xx60⟩ := h58
          rw [e59]
          refine wt_T_if (fun h61 => ?_) (fun h61 => ?_)
          · skip
            refine wt_T_bi (wq_tx_needOf n hn x1 x2 σ) (fun r62 h63 => ?_)
            have e64 := h63
            rw [e64]
            refine wt_T_some ?_
            exact ⟨rfl, Or.inl rfl⟩
          · skip
            refine wt_T_some ?_
            exact ⟨rfl, (by (try dsimp only); omega)⟩
      · skip
        refine wt_T_some ?_
        exact ⟨rfl, (by (try dsimp only); omega)⟩
    · skip
      have c65 := wt_ncl h35
      unfold wp_ap_needs_B10
      unfold wp_ap_needs_B15
      refine wt_T_bi (wq_ap_refuse n hn (1 : Int32) σ) (fun r66 h67 => ?_)
      obtain ⟨e68, pp69⟩ := h67
      rw [e68]
      refine wt_T_if (fun h70 => ?_) (fun h70 => ?_)
      · skip
        refine wt_T_bi (wq_tx_has n hn x1 σ) (fun r71 h72 => ?_)
        have e73 := h72
        rw [e73]
        have bb74 := wt_bd r71.1
        refine wt_T_if (fun h75 => ?_) (fun h75 => ?_)
        · skip
          have c76 := wt_ceq h75
          unfold wp_ap_needs_B34
          refine wt_T_bi (wq_ap_miss n hn (1 : Int32) σ) (fun r77 h78 => ?_)
          obtain ⟨e79, xx80⟩ := h78
          rw [e79]
          refine wt_T_if (fun h81 => ?_) (fun h81 => ?_)
          · skip
            refine wt_T_bi (wq_tx_needOf n hn x1 x2 σ) (fun r82 h83 => ?_)
            have e84 := h83
            rw [e84]
            refine wt_T_some ?_
            exact ⟨rfl, Or.inl rfl⟩
          · skip
            refine wt_T_some ?_
            exact ⟨rfl, (by (try dsimp only); omega)⟩
        · skip
          have c85 := wt_nceq h75
          unfold wp_ap_needs_B34
          refine wt_T_bi (wq_ap_miss n hn (0 : Int32) σ) (fun r86 h87 => ?_)
          obtain ⟨e88, xx89⟩ := h87
          rw [e88]
          refine wt_T_if (fun h90 => ?_) (fun h90 => ?_)
          · skip
            refine wt_T_bi (wq_tx_needOf n hn x1 x2 σ) (fun r91 h92 => ?_)
            have e93 := h92
            rw [e93]
            refine wt_T_some ?_
            exact ⟨rfl, Or.inl rfl⟩
          · skip
            refine wt_T_some ?_
            exact ⟨rfl, (by (try dsimp only); omega)⟩
      · skip
        refine wt_T_some ?_
        exact ⟨rfl, (by (try dsimp only); omega)⟩
set_option maxRecDepth 100000 in
set_option maxHeartbeats 4000000 in
theorem wq_ap_page (n : Nat) (hn : 4294967297 < n) (x1 : Int32) (x2 : Int32) (σ : wt_St) : wt_T (wp_ap_page n x1 x2 σ) (fun q => wt_fr (fun i k => False) (fun i => i = 79 ∨ i = 80) σ q.2.2 ∧ (q.1 = 0 ∨ q.1 = 1 ∨ q.1 = 2)) := by
  unfold wp_ap_page
  refine wt_T_bi (wq_pg_stands n hn x1 σ) (fun r1 h2 => ?_)
  have e3 := h2
  rw [e3]
  have bb4 := wt_bd r1.1
  have k5 : (0 : Int32).toInt = 0 := by decide
  refine wt_T_if (fun h6 => ?_) (fun h6 => ?_)
  · skip
    have c7 := wt_ceq h6
    unfold wp_ap_page_B16
    refine wt_T_bi (wq_ap_miss n hn (1 : Int32) σ) (fun r8 h9 => ?_)
    obtain ⟨e10, xx11⟩ := h9
    rw [e10]
    refine wt_T_if (fun h12 => ?_) (fun h12 => ?_)
    · skip
      have bb13 := wt_bd x2
      refine wt_T_if (fun h14 => ?_) (fun h14 => ?_)
      · skip
        have c15 := wt_ceq h14
        refine wt_T_bi (wq_ap_look n hn 43 x1 σ) (fun r16 h17 => ?_)
        obtain ⟨e18, e18v⟩ := h17
        have e19 := wt_ceq e18v
        have bb20 := wt_bd (wt_lk 43 x1 σ)
        have bb21 := wt_bd r16.1
        rw [e18]
        refine wt_T_some ?_
        exact ⟨wt_fr.rf, Or.inl rfl⟩
      · skip
        have c22 := wt_nceq h14
        have k23 : (1 : Int32).toInt = 1 := by decide
        refine wt_T_if (fun h24 => ?_) (fun h24 => ?_)
        · skip
          have c25 := wt_ceq h24
          refine wt_T_bi (wq_pg_piecesOn n hn x1 σ) (fun r26 h27 => ?_)
          have e28 := h27
          rw [e28]
          refine wt_T_some ?_
          exact ⟨wt_fr.rf, Or.inl rfl⟩
        · skip
          have c29 := wt_nceq h24
          have k30 : (2 : Int32).toInt = 2 := by decide
          refine wt_T_if (fun h31 => ?_) (fun h31 => ?_)
          · skip
            have c32 := wt_ceq h31
            refine wt_T_bi (wq_pg_faintOn n hn x1 σ) (fun r33 h34 => ?_)
            have e35 := h34
            rw [e35]
            refine wt_T_some ?_
            exact ⟨wt_fr.rf, Or.inl rfl⟩
          · skip
            have c36 := wt_nceq h31
            have k37 : (3 : Int32).toInt = 3 := by decide
            refine wt_T_if (fun h38 => ?_) (fun h38 => ?_)
            · skip
              have c39 := wt_ceq h38
              refine wt_T_bi (wq_pg_leastLeftOn n hn x1 σ) (fun r40 h41 => ?_)
              have e42 := h41
              rw [e42]
              refine wt_T_some ?_
              exact ⟨wt_fr.rf, Or.inl rfl⟩
            · skip
              have c43 := wt_nceq h38
              have k44 : (4 : Int32).toInt = 4 := by decide
              refine wt_T_if (fun h45 => ?_) (fun h45 => ?_)
              · skip
                have c46 := wt_ceq h45
                refine wt_T_bi (wq_pg_misreadOn n hn x1 σ) (fun r47 h48 => ?_)
                have f49 := h48
                refine wt_T_some ?_
                exact ⟨(wt_fr.tr wt_fr.rf f49 (fun i k h => h.elim) (fun i h => by (try dsimp only at h); rcases h with h | h; exact Or.inl (by first | exact h | omega); exact Or.inr (by first | exact h | omega))), Or.inl rfl⟩
              · skip
                have c50 := wt_nceq h45
                refine wt_T_some ?_
                exact ⟨wt_fr.rf, Or.inr (Or.inl rfl)⟩
    · skip
      refine wt_T_some ?_
      exact ⟨wt_fr.rf, (by (try dsimp only); omega)⟩
  · skip
    have c51 := wt_nceq h6
    unfold wp_ap_page_B16
    refine wt_T_bi (wq_ap_miss n hn (0 : Int32) σ) (fun r52 h53 => ?_)
    obtain ⟨e54, xx55⟩ := h53
    rw [e54]
    refine wt_T_if (fun h56 => ?_) (fun h56 => ?_)
    · skip
      have bb57 := wt_bd x2
      refine wt_T_if (fun h58 => ?_) (fun h58 => ?_)
      · skip
        have c59 := wt_ceq h58
        refine wt_T_bi (wq_ap_look n hn 43 x1 σ) (fun r60 h61 => ?_)
        obtain ⟨e62, e62v⟩ := h61
        have e63 := wt_ceq e62v
        have bb64 := wt_bd (wt_lk 43 x1 σ)
        have bb65 := wt_bd r60.1
        rw [e62]
        refine wt_T_some ?_
        exact ⟨wt_fr.rf, Or.inl rfl⟩
      · skip
        have c66 := wt_nceq h58
        have k67 : (1 : Int32).toInt = 1 := by decide
        refine wt_T_if (fun h68 => ?_) (fun h68 => ?_)
        · skip
          have c69 := wt_ceq h68
          refine wt_T_bi (wq_pg_piecesOn n hn x1 σ) (fun r70 h71 => ?_)
          have e72 := h71
          rw [e72]
          refine wt_T_some ?_
          exact ⟨wt_fr.rf, Or.inl rfl⟩
        · skip
          have c73 := wt_nceq h68
          have k74 : (2 : Int32).toInt = 2 := by decide
          refine wt_T_if (fun h75 => ?_) (fun h75 => ?_)
          · skip
            have c76 := wt_ceq h75
            refine wt_T_bi (wq_pg_faintOn n hn x1 σ) (fun r77 h78 => ?_)
            have e79 := h78
            rw [e79]
            refine wt_T_some ?_
            exact ⟨wt_fr.rf, Or.inl rfl⟩
          · skip
            have c80 := wt_nceq h75
            have k81 : (3 : Int32).toInt = 3 := by decide
            refine wt_T_if (fun h82 => ?_) (fun h82 => ?_)
            · skip
              have c83 := wt_ceq h82
              refine wt_T_bi (wq_pg_leastLeftOn n hn x1 σ) (fun r84 h85 => ?_)
              have e86 := h85
              rw [e86]
              refine wt_T_some ?_
              exact ⟨wt_fr.rf, Or.inl rfl⟩
            · skip
              have c87 := wt_nceq h82
              have k88 : (4 : Int32).toInt = 4 := by decide
              refine wt_T_if (fun h89 => ?_) (fun h89 => ?_)
              · skip
                have c90 := wt_ceq h89
                refine wt_T_bi (wq_pg_misreadOn n hn x1 σ) (fun r91 h92 => ?_)
                have f93 := h92
                refine wt_T_some ?_
                exact ⟨(wt_fr.tr wt_fr.rf f93 (fun i k h => h.elim) (fun i h => by (try dsimp only at h); rcases h with h | h; exact Or.inl (by first | exact h | omega); exact Or.inr (by first | exact h | omega))), Or.inl rfl⟩
              · skip
                have c94 := wt_nceq h89
                refine wt_T_some ?_
                exact ⟨wt_fr.rf, Or.inr (Or.inl rfl)⟩
    · skip
      refine wt_T_some ?_
      exact ⟨wt_fr.rf, (by (try dsimp only); omega)⟩
set_option maxRecDepth 100000 in
set_option maxHeartbeats 4000000 in
theorem wq_ap_piece (n : Nat) (hn : 4294967297 < n) (x1 : Int32) (x2 : Int32) (x3 : Int32) (σ : wt_St) : wt_T (wp_ap_piece n x1 x2 x3 σ) (fun q => q.2.2 = σ ∧ (q.1 = 0 ∨ q.1 = 1 ∨ q.1 = 3)) := by
  unfold wp_ap_piece
  have bb1 := wt_bd x1
  have k2 : (0 : Int32).toInt = 0 := by decide
  refine wt_T_if (fun h3 => ?_) (fun h3 => ?_)
  · skip
    have c4 := wt_clt h3
    unfold wp_ap_piece_B10
    unfold wp_ap_piece_B15
    refine wt_T_bi (wq_ap_refuse n hn (1 : Int32) σ) (fun r5 h6 => ?_)
    obtain ⟨e7, pp8⟩ := h6
    rw [e7]
    refine wt_T_if (fun h9 => ?_) (fun h9 => ?_)
    · skip
      have bb10 := wt_bd x2
      refine wt_T_if (fun h11 => ?_) (fun h11 => ?_)
      · skip
        have c12 := wt_clt h11
        unfold wp_ap_piece_B34
        refine wt_T_some ?_
        exact ⟨rfl, Or.inr (Or.inr (rfl))⟩
      · skip
        have c13 := wt_ncl h11
        refine wt_T_bi (wq_sk_pieces n hn x1 σ) (fun r14 h15 => ?_)
        obtain ⟨e16, e16v⟩ := h15
        have e17 := wt_ceq e16v
        have bb18 := wt_bd (wt_lk 5 x1 σ)
        have bb19 := wt_bd r14.1
        rw [e16]
        refine wt_T_if (fun h20 => ?_) (fun h20 => ?_)
        · skip
          have c21 := wt_clt h20
          have bb22 := wt_bd x3
          refine wt_T_if (fun h23 => ?_) (fun h23 => ?_)
          · skip
            have c24 := wt_clt h23
            unfold wp_ap_piece_B53
            unfold wp_ap_piece_B58
            refine wt_T_bi (wq_ap_refuse n hn (1 : Int32) σ) (fun r25 h26 => ?_)
            obtain ⟨e27, pp28⟩ := h26
            rw [e27]
            refine wt_T_if (fun h29 => ?_) (fun h29 => ?_)
            · skip
              refine wt_T_if (fun h30 => ?_) (fun h30 => ?_)
              · skip
                have c31 := wt_ceq h30
                unfold wp_ap_piece_B82
                refine wt_T_bi (wq_ap_look n hn 40 ((x1 * (12 : Int32)) + x2) σ) (fun r32 h33 => ?_)
                obtain ⟨e34, e34v⟩ := h33
                have e35 := wt_ceq e34v
                have bb36 := wt_bd (wt_lk 40 ((x1 * (12 : Int32)) + x2) σ)
                have bb37 := wt_bd r32.1
                rw [e34]
                refine wt_T_some ?_
                exact ⟨rfl, Or.inl rfl⟩
              · skip
                have c38 := wt_nceq h30
                unfold wp_ap_piece_B82
                refine wt_T_bi (wq_ap_look n hn 41 ((x1 * (12 : Int32)) + x2) σ) (fun r39 h40 => ?_)
                obtain ⟨e41, e41v⟩ := h40
                have e42 := wt_ceq e41v
                have bb43 := wt_bd (wt_lk 41 ((x1 * (12 : Int32)) + x2) σ)
                have bb44 := wt_bd r39.1
                rw [e41]
                refine wt_T_some ?_
                exact ⟨rfl, Or.inl rfl⟩
            · skip
              refine wt_T_some ?_
              exact ⟨rfl, (by (try dsimp only); omega)⟩
          · skip
            have c45 := wt_ncl h23
            have k46 : (1 : Int32).toInt = 1 := by decide
            refine wt_T_if (fun h47 => ?_) (fun h47 => ?_)
            · skip
              have c48 := wt_cle h47
              unfold wp_ap_piece_B58
              refine wt_T_bi (wq_ap_refuse n hn (0 : Int32) σ) (fun r49 h50 => ?_)
              obtain ⟨e51, pp52⟩ := h50
              rw [e51]
              refine wt_T_if (fun h53 => ?_) (fun h53 => ?_)
              · skip
                refine wt_T_if (fun h54 => ?_) (fun h54 => ?_)
                · skip
                  have c55 := wt_ceq h54
                  unfold wp_ap_piece_B82
                  refine wt_T_bi (wq_ap_look n hn 40 ((x1 * (12 : Int32)) + x2) σ) (fun r56 h57 => ?_)
                  obtain ⟨e58, e58v⟩ := h57
                  have e59 := wt_ceq e58v
                  have bb60 := wt_bd (wt_lk 40 ((x1 * (12 : Int32)) + x2) σ)
                  have bb61 := wt_bd r56.1
                  rw [e58]
                  refine wt_T_some ?_
                  exact ⟨rfl, Or.inl rfl⟩
                · skip
                  have c62 := wt_nceq h54
                  unfold wp_ap_piece_B82
                  refine wt_T_bi (wq_ap_look n hn 41 ((x1 * (12 : Int32)) + x2) σ) (fun r63 h64 => ?_)
                  obtain ⟨e65, e65v⟩ := h64
                  have e66 := wt_ceq e65v
                  have bb67 := wt_bd (wt_lk 41 ((x1 * (12 : Int32)) + x2) σ)
                  have bb68 := wt_bd r63.1
                  rw [e65]
                  refine wt_T_some ?_
                  exact ⟨rfl, Or.inl rfl⟩
              · skip
                refine wt_T_some ?_
                exact ⟨rfl, (by (try dsimp only); omega)⟩
            · skip
              have c69 := wt_ncle h47
              unfold wp_ap_piece_B53
              unfold wp_ap_piece_B58
              refine wt_T_bi (wq_ap_refuse n hn (1 : Int32) σ) (fun r70 h71 => ?_)
              obtain ⟨e72, pp73⟩ := h71
              rw [e72]
              refine wt_T_if (fun h74 => ?_) (fun h74 => ?_)
              · skip
                refine wt_T_if (fun h75 => ?_) (fun h75 => ?_)
                · skip
                  have c76 := wt_ceq h75
                  unfold wp_ap_piece_B82
                  refine wt_T_bi (wq_ap_look n hn 40 ((x1 * (12 : Int32)) + x2) σ) (fun r77 h78 => ?_)
                  obtain ⟨e79, e79v⟩ := h78
                  have e80 := wt_ceq e79v
                  have bb81 := wt_bd (wt_lk 40 ((x1 * (12 : Int32)) + x2) σ)
                  have bb82 := wt_bd r77.1
                  rw [e79]
                  refine wt_T_some ?_
                  exact ⟨rfl, Or.inl rfl⟩
                · skip
                  have c83 := wt_nceq h75
                  unfold wp_ap_piece_B82
                  refine wt_T_bi (wq_ap_look n hn 41 ((x1 * (12 : Int32)) + x2) σ) (fun r84 h85 => ?_)
                  obtain ⟨e86, e86v⟩ := h85
                  have e87 := wt_ceq e86v
                  have bb88 := wt_bd (wt_lk 41 ((x1 * (12 : Int32)) + x2) σ)
                  have bb89 := wt_bd r84.1
                  rw [e86]
                  refine wt_T_some ?_
                  exact ⟨rfl, Or.inl rfl⟩
              · skip
                refine wt_T_some ?_
                exact ⟨rfl, (by (try dsimp only); omega)⟩
        · skip
          have c90 := wt_ncl h20
          unfold wp_ap_piece_B34
          refine wt_T_some ?_
          exact ⟨rfl, Or.inr (Or.inr (rfl))⟩
    · skip
      refine wt_T_some ?_
      exact ⟨rfl, (by (try dsimp only); omega)⟩
  · skip
    have c91 := wt_ncl h3
    have k92 : (26 : Int32).toInt = 26 := by decide
    refine wt_T_if (fun h93 => ?_) (fun h93 => ?_)
    · skip
      have c94 := wt_clt h93
      unfold wp_ap_piece_B15
      refine wt_T_bi (wq_ap_refuse n hn (0 : Int32) σ) (fun r95 h96 => ?_)
      obtain ⟨e97, pp98⟩ := h96
      rw [e97]
      refine wt_T_if (fun h99 => ?_) (fun h99 => ?_)
      · skip
        have bb100 := wt_bd x2
        refine wt_T_if (fun h101 => ?_) (fun h101 => ?_)
        · skip
          have c102 := wt_clt h101
          unfold wp_ap_piece_B34
          refine wt_T_some ?_
          exact ⟨rfl, Or.inr (Or.inr (rfl))⟩
        · skip
          have c103 := wt_ncl h101
          refine wt_T_bi (wq_sk_pieces n hn x1 σ) (fun r104 h105 => ?_)
          obtain ⟨e106, e106v⟩ := h105
          have e107 := wt_ceq e106v
          have bb108 := wt_bd (wt_lk 5 x1 σ)
          have bb109 := wt_bd r104.1
          rw [e106]
          refine wt_T_if (fun h110 => ?_) (fun h110 => ?_)
          · skip
            have c111 := wt_clt h110
            have bb112 := wt_bd x3
            refine wt_T_if (fun h113 => ?_) (fun h113 => ?_)
            · skip
              have c114 := wt_clt h113
              unfold wp_ap_piece_B53
              unfold wp_ap_piece_B58
              refine wt_T_bi (wq_ap_refuse n hn (1 : Int32) σ) (fun r115 h116 => ?_)
              obtain ⟨e117, pp118⟩ := h116
              rw [e117]
              refine wt_T_if (fun h119 => ?_) (fun h119 => ?_)
              · skip
                refine wt_T_if (fun h120 => ?_) (fun h120 => ?_)
                · skip
                  have c121 := wt_ceq h120
                  unfold wp_ap_piece_B82
                  refine wt_T_bi (wq_ap_look n hn 40 ((x1 * (12 : Int32)) + x2) σ) (fun r122 h123 => ?_)
                  obtain ⟨e124, e124v⟩ := h123
                  have e125 := wt_ceq e124v
                  have bb126 := wt_bd (wt_lk 40 ((x1 * (12 : Int32)) + x2) σ)
                  have bb127 := wt_bd r122.1
                  rw [e124]
                  refine wt_T_some ?_
                  exact ⟨rfl, Or.inl rfl⟩
                · skip
                  have c128 := wt_nceq h120
                  unfold wp_ap_piece_B82
                  refine wt_T_bi (wq_ap_look n hn 41 ((x1 * (12 : Int32)) + x2) σ) (fun r129 h130 => ?_)
                  obtain ⟨e131, e131v⟩ := h130
                  have e132 := wt_ceq e131v
                  have bb133 := wt_bd (wt_lk 41 ((x1 * (12 : Int32)) + x2) σ)
                  have bb134 := wt_bd r129.1
                  rw [e131]
                  refine wt_T_some ?_
                  exact ⟨rfl, Or.inl rfl⟩
              · skip
                refine wt_T_some ?_
                exact ⟨rfl, (by (try dsimp only); omega)⟩
            · skip
              have c135 := wt_ncl h113
              have k136 : (1 : Int32).toInt = 1 := by decide
              refine wt_T_if (fun h137 => ?_) (fun h137 => ?_)
              · skip
                have c138 := wt_cle h137
                unfold wp_ap_piece_B58
                refine wt_T_bi (wq_ap_refuse n hn (0 : Int32) σ) (fun r139 h140 => ?_)
                obtain ⟨e141, pp142⟩ := h140
                rw [e141]
                refine wt_T_if (fun h143 => ?_) (fun h143 => ?_)
                · skip
                  refine wt_T_if (fun h144 => ?_) (fun h144 => ?_)
                  · skip
                    have c145 := wt_ceq h144
                    unfold wp_ap_piece_B82
                    refine wt_T_bi (wq_ap_look n hn 40 ((x1 * (12 : Int32)) + x2) σ) (fun r146 h147 => ?_)
                    obtain ⟨e148, e148v⟩ := h147
                    have e149 := wt_ceq e148v
                    have bb150 := wt_bd (wt_lk 40 ((x1 * (12 : Int32)) + x2) σ)
                    have bb151 := wt_bd r146.1
                    rw [e148]
                    refine wt_T_some ?_
                    exact ⟨rfl, Or.inl rfl⟩
                  · skip
                    have c152 := wt_nceq h144
                    unfold wp_ap_piece_B82
                    refine wt_T_bi (wq_ap_look n hn 41 ((x1 * (12 : Int32)) + x2) σ) (fun r153 h154 => ?_)
                    obtain ⟨e155, e155v⟩ := h154
                    have e156 := wt_ceq e155v
                    have bb157 := wt_bd (wt_lk 41 ((x1 * (12 : Int32)) + x2) σ)
                    have bb158 := wt_bd r153.1
                    rw [e155]
                    refine wt_T_some ?_
                    exact ⟨rfl, Or.inl rfl⟩
                · skip
                  refine wt_T_some ?_
                  exact ⟨rfl, (by (try dsimp only); omega)⟩
              · skip
                have c159 := wt_ncle h137
                unfold wp_ap_piece_B53
                unfold wp_ap_piece_B58
                refine wt_T_bi (wq_ap_refuse n hn (1 : Int32) σ) (fun r160 h161 => ?_)
                obtain ⟨e162, pp163⟩ := h161
                rw [e162]
                refine wt_T_if (fun h164 => ?_) (fun h164 => ?_)
                · skip
                  refine wt_T_if (fun h165 => ?_) (fun h165 => ?_)
                  · skip
                    have c166 := wt_ceq h165
                    unfold wp_ap_piece_B82
                    refine wt_T_bi (wq_ap_look n hn 40 ((x1 * (12 : Int32)) + x2) σ) (fun r167 h168 => ?_)
                    obtain ⟨e169, e169v⟩ := h168
                    have e170 := wt_ceq e169v
                    have bb171 := wt_bd (wt_lk 40 ((x1 * (12 : Int32)) + x2) σ)
                    have bb172 := wt_bd r167.1
                    rw [e169]
                    refine wt_T_some ?_
                    exact ⟨rfl, Or.inl rfl⟩
                  · skip
                    have c173 := wt_nceq h165
                    unfold wp_ap_piece_B82
                    refine wt_T_bi (wq_ap_look n hn 41 ((x1 * (12 : Int32)) + x2) σ) (fun r174 h175 => ?_)
                    obtain ⟨e176, e176v⟩ := h175
                    have e177 := wt_ceq e176v
                    have bb178 := wt_bd (wt_lk 41 ((x1 * (12 : Int32)) + x2) σ)
                    have bb179 := wt_bd r174.1
                    rw [e176]
                    refine wt_T_some ?_
                    exact ⟨rfl, Or.inl rfl⟩
                · skip
                  refine wt_T_some ?_
                  exact ⟨rfl, (by (try dsimp only); omega)⟩
          · skip
            have c180 := wt_ncl h110
            unfold wp_ap_piece_B34
            refine wt_T_some ?_
            exact ⟨rfl, Or.inr (Or.inr (rfl))⟩
      · skip
        refine wt_T_some ?_
        exact ⟨rfl, (by (try dsimp only); omega)⟩
    · skip
      have c181 := wt_ncl h93
      unfold wp_ap_piece_B10
      unfold wp_ap_piece_B15
      refine wt_T_bi (wq_ap_refuse n hn (1 : Int32) σ) (fun r182 h183 => ?_)
      obtain ⟨e184, pp185⟩ := h183
      rw [e184]
      refine wt_T_if (fun h186 => ?_) (fun h186 => ?_)
      · skip
        have bb187 := wt_bd x2
        refine wt_T_if (fun h188 => ?_) (fun h188 => ?_)
        · skip
          have c189 := wt_clt h188
          unfold wp_ap_piece_B34
          refine wt_T_some ?_
          exact ⟨rfl, Or.inr (Or.inr (rfl))⟩
        · skip
          have c190 := wt_ncl h188
          refine wt_T_bi (wq_sk_pieces n hn x1 σ) (fun r191 h192 => ?_)
          obtain ⟨e193, e193v⟩ := h192
          have e194 := wt_ceq e193v
          have bb195 := wt_bd (wt_lk 5 x1 σ)
          have bb196 := wt_bd r191.1
          rw [e193]
          refine wt_T_if (fun h197 => ?_) (fun h197 => ?_)
          · skip
            have c198 := wt_clt h197
            have bb199 := wt_bd x3
            refine wt_T_if (fun h200 => ?_) (fun h200 => ?_)
            · skip
              have c201 := wt_clt h200
              unfold wp_ap_piece_B53
              unfold wp_ap_piece_B58
              refine wt_T_bi (wq_ap_refuse n hn (1 : Int32) σ) (fun r202 h203 => ?_)
              obtain ⟨e204, pp205⟩ := h203
              rw [e204]
              refine wt_T_if (fun h206 => ?_) (fun h206 => ?_)
              · skip
                refine wt_T_if (fun h207 => ?_) (fun h207 => ?_)
                · skip
                  have c208 := wt_ceq h207
                  unfold wp_ap_piece_B82
                  refine wt_T_bi (wq_ap_look n hn 40 ((x1 * (12 : Int32)) + x2) σ) (fun r209 h210 => ?_)
                  obtain ⟨e211, e211v⟩ := h210
                  have e212 := wt_ceq e211v
                  have bb213 := wt_bd (wt_lk 40 ((x1 * (12 : Int32)) + x2) σ)
                  have bb214 := wt_bd r209.1
                  rw [e211]
                  refine wt_T_some ?_
                  exact ⟨rfl, Or.inl rfl⟩
                · skip
                  have c215 := wt_nceq h207
                  unfold wp_ap_piece_B82
                  refine wt_T_bi (wq_ap_look n hn 41 ((x1 * (12 : Int32)) + x2) σ) (fun r216 h217 => ?_)
                  obtain ⟨e218, e218v⟩ := h217
                  have e219 := wt_ceq e218v
                  have bb220 := wt_bd (wt_lk 41 ((x1 * (12 : Int32)) + x2) σ)
                  have bb221 := wt_bd r216.1
                  rw [e218]
                  refine wt_T_some ?_
                  exact ⟨rfl, Or.inl rfl⟩
              · skip
                refine wt_T_some ?_
                exact ⟨rfl, (by (try dsimp only); omega)⟩
            · skip
              have c222 := wt_ncl h200
              have k223 : (1 : Int32).toInt = 1 := by decide
              refine wt_T_if (fun h224 => ?_) (fun h224 => ?_)
              · skip
                have c225 := wt_cle h224
                unfold wp_ap_piece_B58
                refine wt_T_bi (wq_ap_refuse n hn (0 : Int32) σ) (fun r226 h227 => ?_)
                obtain ⟨e228, pp229⟩ := h227
                rw [e228]
                refine wt_T_if (fun h230 => ?_) (fun h230 => ?_)
                · skip
                  refine wt_T_if (fun h231 => ?_) (fun h231 => ?_)
                  · skip
                    have c232 := wt_ceq h231
                    unfold wp_ap_piece_B82
                    refine wt_T_bi (wq_ap_look n hn 40 ((x1 * (12 : Int32)) + x2) σ) (fun r233 h234 => ?_)
                    obtain ⟨e235, e235v⟩ := h234
                    have e236 := wt_ceq e235v
                    have bb237 := wt_bd (wt_lk 40 ((x1 * (12 : Int32)) + x2) σ)
                    have bb238 := wt_bd r233.1
                    rw [e235]
                    refine wt_T_some ?_
                    exact ⟨rfl, Or.inl rfl⟩
                  · skip
                    have c239 := wt_nceq h231
                    unfold wp_ap_piece_B82
                    refine wt_T_bi (wq_ap_look n hn 41 ((x1 * (12 : Int32)) + x2) σ) (fun r240 h241 => ?_)
                    obtain ⟨e242, e242v⟩ := h241
                    have e243 := wt_ceq e242v
                    have bb244 := wt_bd (wt_lk 41 ((x1 * (12 : Int32)) + x2) σ)
                    have bb245 := wt_bd r240.1
                    rw [e242]
                    refine wt_T_some ?_
                    exact ⟨rfl, Or.inl rfl⟩
                · skip
                  refine wt_T_some ?_
                  exact ⟨rfl, (by (try dsimp only); omega)⟩
              · skip
                have c246 := wt_ncle h224
                unfold wp_ap_piece_B53
                unfold wp_ap_piece_B58
                refine wt_T_bi (wq_ap_refuse n hn (1 : Int32) σ) (fun r247 h248 => ?_)
                obtain ⟨e249, pp250⟩ := h248
                rw [e249]
                refine wt_T_if (fun h251 => ?_) (fun h251 => ?_)
                · skip
                  refine wt_T_if (fun h252 => ?_) (fun h252 => ?_)
                  · skip
                    have c253 := wt_ceq h252
                    unfold wp_ap_piece_B82
                    refine wt_T_bi (wq_ap_look n hn 40 ((x1 * (12 : Int32)) + x2) σ) (fun r254 h255 => ?_)
                    obtain ⟨e256, e256v⟩ := h255
                    have e257 := wt_ceq e256v
                    have bb258 := wt_bd (wt_lk 40 ((x1 * (12 : Int32)) + x2) σ)
                    have bb259 := wt_bd r254.1
                    rw [e256]
                    refine wt_T_some ?_
                    exact ⟨rfl, Or.inl rfl⟩
                  · skip
                    have c260 := wt_nceq h252
                    unfold wp_ap_piece_B82
                    refine wt_T_bi (wq_ap_look n hn 41 ((x1 * (12 : Int32)) + x2) σ) (fun r261 h262 => ?_)
                    obtain ⟨e263, e263v⟩ := h262
                    have e264 := wt_ceq e263v
                    have bb265 := wt_bd (wt_lk 41 ((x1 * (12 : Int32)) + x2) σ)
                    have bb266 := wt_bd r261.1
                    rw [e263]
                    refine wt_T_some ?_
                    exact ⟨rfl, Or.inl rfl⟩
                · skip
                  refine wt_T_some ?_
                  exact ⟨rfl, (by (try dsimp only); omega)⟩
          · skip
            have c267 := wt_ncl h197
            unfold wp_ap_piece_B34
            refine wt_T_some ?_
            exact ⟨rfl, Or.inr (Or.inr (rfl))⟩
      · skip
        refine wt_T_some ?_
        exact ⟨rfl, (by (try dsimp only); omega)⟩
set_option maxRecDepth 100000 in
set_option maxHeartbeats 4000000 in
theorem wq_ap_print (n : Nat) (hn : 4294967297 < n) (x1 : Int32) (x2 : Int32) (σ : wt_St) : wt_T (wp_ap_print n x1 x2 σ) (fun q => wt_fr (fun i k => False) (fun i => i = 40) σ q.2.2 ∧ (q.1 = 0 ∨ q.1 = 1 ∨ q.1 = 2)) := by
  unfold wp_ap_print
  refine wt_T_bi (wq_pg_stands n hn x1 σ) (fun r1 h2 => ?_)
  have e3 := h2
  rw [e3]
  have bb4 := wt_bd r1.1
  have k5 : (0 : Int32).toInt = 0 := by decide
  refine wt_T_if (fun h6 => ?_) (fun h6 => ?_)
  · skip
    have c7 := wt_ceq h6
    unfold wp_ap_print_B16
    refine wt_T_bi (wq_ap_miss n hn (1 : Int32) σ) (fun r8 h9 => ?_)
    obtain ⟨e10, xx11⟩ := h9
    rw [e10]
    refine wt_T_if (fun h12 => ?_) (fun h12 => ?_)
    · skip
      refine wt_T_bi (wq_ap_refuseCopies n hn x2 σ) (fun r13 h14 => ?_)
      obtain ⟨e15, xx16⟩ := h14
      rw [e15]
      refine wt_T_if (fun h17 => ?_) (fun h17 => ?_)
      · skip
        refine wt_T_bi (wq_pg_press n hn x1 x2 σ) (fun r18 h19 => ?_)
        have f20 := h19
        refine wt_T_some ?_
        exact ⟨(wt_fr.tr wt_fr.rf f20 (fun i k h => h.elim) (fun i h => by (try dsimp only at h); exact (by first | exact h | omega))), Or.inl rfl⟩
      · skip
        refine wt_T_some ?_
        exact ⟨wt_fr.rf, (by (try dsimp only); omega)⟩
    · skip
      refine wt_T_some ?_
      exact ⟨wt_fr.rf, (by (try dsimp only); omega)⟩
  · skip
    have c21 := wt_nceq h6
    unfold wp_ap_print_B16
    refine wt_T_bi (wq_ap_miss n hn (0 : Int32) σ) (fun r22 h23 => ?_)
    obtain ⟨e24, xx25⟩ := h23
    rw [e24]
    refine wt_T_if (fun h26 => ?_) (fun h26 => ?_)
    · skip
      refine wt_T_bi (wq_ap_refuseCopies n hn x2 σ) (fun r27 h28 => ?_)
      obtain ⟨e29, xx30⟩ := h28
      rw [e29]
      refine wt_T_if (fun h31 => ?_) (fun h31 => ?_)
      · skip
        refine wt_T_bi (wq_pg_press n hn x1 x2 σ) (fun r32 h33 => ?_)
        have f34 := h33
        refine wt_T_some ?_
        exact ⟨(wt_fr.tr wt_fr.rf f34 (fun i k h => h.elim) (fun i h => by (try dsimp only at h); exact (by first | exact h | omega))), Or.inl rfl⟩
      · skip
        refine wt_T_some ?_
        exact ⟨wt_fr.rf, (by (try dsimp only); omega)⟩
    · skip
      refine wt_T_some ?_
      exact ⟨wt_fr.rf, (by (try dsimp only); omega)⟩
set_option maxRecDepth 100000 in
set_option maxHeartbeats 4000000 in
theorem wq_ap_read (n : Nat) (hn : 4294967297 < n) (x1 : Int32) (x2 : Int32) (σ : wt_St) : wt_T (wp_ap_read n x1 x2 σ) (fun q => wt_fr (fun i k => False) (fun i => i = 79 ∨ i = 80) σ q.2.2 ∧ (q.1 = 0 ∨ q.1 = 2)) := by
  unfold wp_ap_read
  refine wt_T_bi (wq_pg_stands n hn x1 σ) (fun r1 h2 => ?_)
  have e3 := h2
  rw [e3]
  have bb4 := wt_bd r1.1
  have k5 : (0 : Int32).toInt = 0 := by decide
  refine wt_T_if (fun h6 => ?_) (fun h6 => ?_)
  · skip
    have c7 := wt_ceq h6
    unfold wp_ap_read_B16
    refine wt_T_bi (wq_ap_miss n hn (1 : Int32) σ) (fun r8 h9 => ?_)
    obtain ⟨e10, xx11⟩ := h9
    rw [e10]
    refine wt_T_if (fun h12 => ?_) (fun h12 => ?_)
    · skip
      refine wt_T_bi (wq_ap_look n hn 43 x1 σ) (fun r13 h14 => ?_)
      obtain ⟨e15, e15v⟩ := h14
      have e16 := wt_ceq e15v
      have bb17 := wt_bd (wt_lk 43 x1 σ)
      have bb18 := wt_bd r13.1
      rw [e15]
      refine wt_T_bi (wq_tx_wordAt n hn r13.1 x2 σ) (fun r19 h20 => ?_)
      have e21 := h20
      rw [e21]
      have bb22 := wt_bd r19.1
      refine wt_T_if (fun h23 => ?_) (fun h23 => ?_)
      · skip
        have c24 := wt_ceq h23
        rw [wt_lm1] at c24
        refine wt_T_some ?_
        exact ⟨wt_fr.rf, Or.inl rfl⟩
      · skip
        have c25 := wt_nceq h23
        rw [wt_lm1] at c25
        refine wt_T_bi (wq_pg_readAs n hn x1 x2 σ) (fun r26 h27 => ?_)
        have f28 := h27
        refine wt_T_some ?_
        exact ⟨(wt_fr.tr wt_fr.rf f28 (fun i k h => h.elim) (fun i h => by (try dsimp only at h); rcases h with h | h; exact Or.inl (by first | exact h | omega); exact Or.inr (by first | exact h | omega))), Or.inl rfl⟩
    · skip
      refine wt_T_some ?_
      exact ⟨wt_fr.rf, (by (try dsimp only); omega)⟩
  · skip
    have c29 := wt_nceq h6
    unfold wp_ap_read_B16
    refine wt_T_bi (wq_ap_miss n hn (0 : Int32) σ) (fun r30 h31 => ?_)
    obtain ⟨e32, xx33⟩ := h31
    rw [e32]
    refine wt_T_if (fun h34 => ?_) (fun h34 => ?_)
    · skip
      refine wt_T_bi (wq_ap_look n hn 43 x1 σ) (fun r35 h36 => ?_)
      obtain ⟨e37, e37v⟩ := h36
      have e38 := wt_ceq e37v
      have bb39 := wt_bd (wt_lk 43 x1 σ)
      have bb40 := wt_bd r35.1
      rw [e37]
      refine wt_T_bi (wq_tx_wordAt n hn r35.1 x2 σ) (fun r41 h42 => ?_)
      have e43 := h42
      rw [e43]
      have bb44 := wt_bd r41.1
      refine wt_T_if (fun h45 => ?_) (fun h45 => ?_)
      · skip
        have c46 := wt_ceq h45
        rw [wt_lm1] at c46
        refine wt_T_some ?_
        exact ⟨wt_fr.rf, Or.inl rfl⟩
      · skip
        have c47 := wt_nceq h45
        rw [wt_lm1] at c47
        refine wt_T_bi (wq_pg_readAs n hn x1 x2 σ) (fun r48 h49 => ?_)
        have f50 := h49
        refine wt_T_some ?_
        exact ⟨(wt_fr.tr wt_fr.rf f50 (fun i k h => h.elim) (fun i h => by (try dsimp only at h); rcases h with h | h; exact Or.inl (by first | exact h | omega); exact Or.inr (by first | exact h | omega))), Or.inl rfl⟩
    · skip
      refine wt_T_some ?_
      exact ⟨wt_fr.rf, (by (try dsimp only); omega)⟩
set_option maxRecDepth 100000 in
set_option maxHeartbeats 4000000 in
theorem wq_ap_said (n : Nat) (hn : 4294967297 < n) (x1 : Int32) (x2 : Int32) (σ : wt_St) : wt_T (wp_ap_said n x1 x2 σ) (fun q => wt_fr (fun i k => (i = 86 ∧ k = 8) ∨ (i = 86 ∧ k = 9)) (fun i => i = 99 ∨ i = 98 ∨ i = 100) σ q.2.2 ∧ (q.1 = 0 ∨ q.1 = 1 ∨ q.1 = 2)) := by
  unfold wp_ap_said
  refine wt_T_bi (wq_tg_has n hn 20 x1 σ) (fun r1 h2 => ?_)
  have e3 := h2
  rw [e3]
  have bb4 := wt_bd r1.1
  have k5 : (0 : Int32).toInt = 0 := by decide
  refine wt_T_if (fun h6 => ?_) (fun h6 => ?_)
  · skip
    have c7 := wt_ceq h6
    unfold wp_ap_said_B16
    refine wt_T_bi (wq_ap_miss n hn (1 : Int32) σ) (fun r8 h9 => ?_)
    obtain ⟨e10, xx11⟩ := h9
    rw [e10]
    refine wt_T_if (fun h12 => ?_) (fun h12 => ?_)
    · skip
      have bb13 := wt_bd x2
      refine wt_T_if (fun h14 => ?_) (fun h14 => ?_)
      · skip
        have c15 := wt_clt h14
        unfold wp_ap_said_B29
        unfold wp_ap_said_B34
        refine wt_T_bi (wq_ap_refuse n hn (1 : Int32) σ) (fun r16 h17 => ?_)
        obtain ⟨e18, pp19⟩ := h17
        rw [e18]
        refine wt_T_if (fun h20 => ?_) (fun h20 => ?_)
        · skip
          refine wt_T_bi (wq_wk_printGreedily n hn x2 σ) (fun r21 h22 => ?_)
          have f23 := h22
          refine wt_T_bi (wq_wk_stillSaid n hn x1 r21) (fun r24 h25 => ?_)
          have f26 := h25
          refine wt_T_some ?_
          exact ⟨(wt_fr.tr (wt_fr.tr wt_fr.rf f23 (fun i k h => by (try dsimp only at h); rcases h with h | h; exact Or.inl (by first | exact h | omega); exact Or.inr (by first | exact h | omega)) (fun i h => by (try dsimp only at h); rcases h with h | h | h; exact Or.inl (by first | exact h | omega); exact Or.inr (Or.inl (by first | exact h | omega)); exact Or.inr (Or.inr (by first | exact h | omega)))) f26 (fun i k h => h.elim) (fun i h => by (try dsimp only at h); exact Or.inr (Or.inr (by first | exact h | omega)))), Or.inl rfl⟩
        · skip
          refine wt_T_some ?_
          exact ⟨wt_fr.rf, (by (try dsimp only); omega)⟩
      · skip
        have c27 := wt_ncl h14
        have k28 : (100 : Int32).toInt = 100 := by decide
        refine wt_T_if (fun h29 => ?_) (fun h29 => ?_)
        · skip
          have c30 := wt_cle h29
          unfold wp_ap_said_B34
          refine wt_T_bi (wq_ap_refuse n hn (0 : Int32) σ) (fun r31 h32 => ?_)
          obtain ⟨e33, pp34⟩ := h32
          rw [e33]
          refine wt_T_if (fun h35 => ?_) (fun h35 => ?_)
          · skip
            refine wt_T_bi (wq_wk_printGreedily n hn x2 σ) (fun r36 h37 => ?_)
            have f38 := h37
            refine wt_T_bi (wq_wk_stillSaid n hn x1 r36) (fun r39 h40 => ?_)
            have f41 := h40
            refine wt_T_some ?_
            exact ⟨(wt_fr.tr (wt_fr.tr wt_fr.rf f38 (fun i k h => by (try dsimp only at h); rcases h with h | h; exact Or.inl (by first | exact h | omega); exact Or.inr (by first | exact h | omega)) (fun i h => by (try dsimp only at h); rcases h with h | h | h; exact Or.inl (by first | exact h | omega); exact Or.inr (Or.inl (by first | exact h | omega)); exact Or.inr (Or.inr (by first | exact h | omega)))) f41 (fun i k h => h.elim) (fun i h => by (try dsimp only at h); exact Or.inr (Or.inr (by first | exact h | omega)))), Or.inl rfl⟩
          · skip
            refine wt_T_some ?_
            exact ⟨wt_fr.rf, (by (try dsimp only); omega)⟩
        · skip
          have c42 := wt_ncle h29
          unfold wp_ap_said_B29
          unfold wp_ap_said_B34
          refine wt_T_bi (wq_ap_refuse n hn (1 : Int32) σ) (fun r43 h44 => ?_)
          obtain ⟨e45, pp46⟩ := h44
          rw [e45]
          refine wt_T_if (fun h47 => ?_) (fun h47 => ?_)
          · skip
            refine wt_T_bi (wq_wk_printGreedily n hn x2 σ) (fun r48 h49 => ?_)
            have f50 := h49
            refine wt_T_bi (wq_wk_stillSaid n hn x1 r48) (fun r51 h52 => ?_)
            have f53 := h52
            refine wt_T_some ?_
            exact ⟨(wt_fr.tr (wt_fr.tr wt_fr.rf f50 (fun i k h => by (try dsimp only at h); rcases h with h | h; exact Or.inl (by first | exact h | omega); exact Or.inr (by first | exact h | omega)) (fun i h => by (try dsimp only at h); rcases h with h | h | h; exact Or.inl (by first | exact h | omega); exact Or.inr (Or.inl (by first | exact h | omega)); exact Or.inr (Or.inr (by first | exact h | omega)))) f53 (fun i k h => h.elim) (fun i h => by (try dsimp only at h); exact Or.inr (Or.inr (by first | exact h | omega)))), Or.inl rfl⟩
          · skip
            refine wt_T_some ?_
            exact ⟨wt_fr.rf, (by (try dsimp only); omega)⟩
    · skip
      refine wt_T_some ?_
      exact ⟨wt_fr.rf, (by (try dsimp only); omega)⟩
  · skip
    have c54 := wt_nceq h6
    unfold wp_ap_said_B16
    refine wt_T_bi (wq_ap_miss n hn (0 : Int32) σ) (fun r55 h56 => ?_)
    obtain ⟨e57, xx58⟩ := h56
    rw [e57]
    refine wt_T_if (fun h59 => ?_) (fun h59 => ?_)
    · skip
      have bb60 := wt_bd x2
      refine wt_T_if (fun h61 => ?_) (fun h61 => ?_)
      · skip
        have c62 := wt_clt h61
        unfold wp_ap_said_B29
        unfold wp_ap_said_B34
        refine wt_T_bi (wq_ap_refuse n hn (1 : Int32) σ) (fun r63 h64 => ?_)
        obtain ⟨e65, pp66⟩ := h64
        rw [e65]
        refine wt_T_if (fun h67 => ?_) (fun h67 => ?_)
        · skip
          refine wt_T_bi (wq_wk_printGreedily n hn x2 σ) (fun r68 h69 => ?_)
          have f70 := h69
          refine wt_T_bi (wq_wk_stillSaid n hn x1 r68) (fun r71 h72 => ?_)
          have f73 := h72
          refine wt_T_some ?_
          exact ⟨(wt_fr.tr (wt_fr.tr wt_fr.rf f70 (fun i k h => by (try dsimp only at h); rcases h with h | h; exact Or.inl (by first | exact h | omega); exact Or.inr (by first | exact h | omega)) (fun i h => by (try dsimp only at h); rcases h with h | h | h; exact Or.inl (by first | exact h | omega); exact Or.inr (Or.inl (by first | exact h | omega)); exact Or.inr (Or.inr (by first | exact h | omega)))) f73 (fun i k h => h.elim) (fun i h => by (try dsimp only at h); exact Or.inr (Or.inr (by first | exact h | omega)))), Or.inl rfl⟩
        · skip
          refine wt_T_some ?_
          exact ⟨wt_fr.rf, (by (try dsimp only); omega)⟩
      · skip
        have c74 := wt_ncl h61
        have k75 : (100 : Int32).toInt = 100 := by decide
        refine wt_T_if (fun h76 => ?_) (fun h76 => ?_)
        · skip
          have c77 := wt_cle h76
          unfold wp_ap_said_B34
          refine wt_T_bi (wq_ap_refuse n hn (0 : Int32) σ) (fun r78 h79 => ?_)
          obtain ⟨e80, pp81⟩ := h79
          rw [e80]
          refine wt_T_if (fun h82 => ?_) (fun h82 => ?_)
          · skip
            refine wt_T_bi (wq_wk_printGreedily n hn x2 σ) (fun r83 h84 => ?_)
            have f85 := h84
            refine wt_T_bi (wq_wk_stillSaid n hn x1 r83) (fun r86 h87 => ?_)
            have f88 := h87
            refine wt_T_some ?_
            exact ⟨(wt_fr.tr (wt_fr.tr wt_fr.rf f85 (fun i k h => by (try dsimp only at h); rcases h with h | h; exact Or.inl (by first | exact h | omega); exact Or.inr (by first | exact h | omega)) (fun i h => by (try dsimp only at h); rcases h with h | h | h; exact Or.inl (by first | exact h | omega); exact Or.inr (Or.inl (by first | exact h | omega)); exact Or.inr (Or.inr (by first | exact h | omega)))) f88 (fun i k h => h.elim) (fun i h => by (try dsimp only at h); exact Or.inr (Or.inr (by first | exact h | omega)))), Or.inl rfl⟩
          · skip
            refine wt_T_some ?_
            exact ⟨wt_fr.rf, (by (try dsimp only); omega)⟩
        · skip
          have c89 := wt_ncle h76
          unfold wp_ap_said_B29
          unfold wp_ap_said_B34
          refine wt_T_bi (wq_ap_refuse n hn (1 : Int32) σ) (fun r90 h91 => ?_)
          obtain ⟨e92, pp93⟩ := h91
          rw [e92]
          refine wt_T_if (fun h94 => ?_) (fun h94 => ?_)
          · skip
            refine wt_T_bi (wq_wk_printGreedily n hn x2 σ) (fun r95 h96 => ?_)
            have f97 := h96
            refine wt_T_bi (wq_wk_stillSaid n hn x1 r95) (fun r98 h99 => ?_)
            have f100 := h99
            refine wt_T_some ?_
            exact ⟨(wt_fr.tr (wt_fr.tr wt_fr.rf f97 (fun i k h => by (try dsimp only at h); rcases h with h | h; exact Or.inl (by first | exact h | omega); exact Or.inr (by first | exact h | omega)) (fun i h => by (try dsimp only at h); rcases h with h | h | h; exact Or.inl (by first | exact h | omega); exact Or.inr (Or.inl (by first | exact h | omega)); exact Or.inr (Or.inr (by first | exact h | omega)))) f100 (fun i k h => h.elim) (fun i h => by (try dsimp only at h); exact Or.inr (Or.inr (by first | exact h | omega)))), Or.inl rfl⟩
          · skip
            refine wt_T_some ?_
            exact ⟨wt_fr.rf, (by (try dsimp only); omega)⟩
    · skip
      refine wt_T_some ?_
      exact ⟨wt_fr.rf, (by (try dsimp only); omega)⟩
set_option maxRecDepth 100000 in
set_option maxHeartbeats 4000000 in
theorem wq_ap_set (n : Nat) (hn : 4294967297 < n) (x1 : Int32) (x2 : Int32) (σ : wt_St) : wt_T (wp_ap_set n x1 x2 σ) (fun q => wt_fr (fun i k => False) (fun i => i = 78 ∨ i = 43 ∨ i = 41 ∨ i = 42) σ q.2.2 ∧ (q.1 = 0 ∨ q.1 = 1 ∨ q.1 = 2)) := by
  unfold wp_ap_set
  refine wt_T_bi (wq_tx_has n hn x1 σ) (fun r1 h2 => ?_)
  have e3 := h2
  rw [e3]
  have bb4 := wt_bd r1.1
  have k5 : (0 : Int32).toInt = 0 := by decide
  refine wt_T_if (fun h6 => ?_) (fun h6 => ?_)
  · skip
    have c7 := wt_ceq h6
    unfold wp_ap_set_B16
    refine wt_T_bi (wq_ap_miss n hn (1 : Int32) σ) (fun r8 h9 => ?_)
    obtain ⟨e10, xx11⟩ := h9
    rw [e10]
    refine wt_T_if (fun h12 => ?_) (fun h12 => ?_)
    · skip
      refine wt_T_bi (wq_ap_refuseCopies n hn x2 σ) (fun r13 h14 => ?_)
      obtain ⟨e15, xx16⟩ := h14
      rw [e15]
      refine wt_T_if (fun h17 => ?_) (fun h17 => ?_)
      · skip
        refine wt_T_bi (wq_pg_stand n hn x1 x2 σ) (fun r18 h19 => ?_)
        have f20 := h19
        refine wt_T_some ?_
        exact ⟨(wt_fr.tr wt_fr.rf f20 (fun i k h => h.elim) (fun i h => by (try dsimp only at h); rcases h with h | h | h | h; exact Or.inl (by first | exact h | omega); exact Or.inr (Or.inl (by first | exact h | omega)); exact Or.inr (Or.inr (Or.inl (by first | exact h | omega))); exact Or.inr (Or.inr (Or.inr (by first | exact h | omega))))), Or.inl rfl⟩
      · skip
        refine wt_T_some ?_
        exact ⟨wt_fr.rf, (by (try dsimp only); omega)⟩
    · skip
      refine wt_T_some ?_
      exact ⟨wt_fr.rf, (by (try dsimp only); omega)⟩
  · skip
    have c21 := wt_nceq h6
    unfold wp_ap_set_B16
    refine wt_T_bi (wq_ap_miss n hn (0 : Int32) σ) (fun r22 h23 => ?_)
    obtain ⟨e24, xx25⟩ := h23
    rw [e24]
    refine wt_T_if (fun h26 => ?_) (fun h26 => ?_)
    · skip
      refine wt_T_bi (wq_ap_refuseCopies n hn x2 σ) (fun r27 h28 => ?_)
      obtain ⟨e29, xx30⟩ := h28
      rw [e29]
      refine wt_T_if (fun h31 => ?_) (fun h31 => ?_)
      · skip
        refine wt_T_bi (wq_pg_stand n hn x1 x2 σ) (fun r32 h33 => ?_)
        have f34 := h33
        refine wt_T_some ?_
        exact ⟨(wt_fr.tr wt_fr.rf f34 (fun i k h => h.elim) (fun i h => by (try dsimp only at h); rcases h with h | h | h | h; exact Or.inl (by first | exact h | omega); exact Or.inr (Or.inl (by first | exact h | omega)); exact Or.inr (Or.inr (Or.inl (by first | exact h | omega))); exact Or.inr (Or.inr (Or.inr (by first | exact h | omega))))), Or.inl rfl⟩
      · skip
        refine wt_T_some ?_
        exact ⟨wt_fr.rf, (by (try dsimp only); omega)⟩
    · skip
      refine wt_T_some ?_
      exact ⟨wt_fr.rf, (by (try dsimp only); omega)⟩
set_option maxRecDepth 100000 in
set_option maxHeartbeats 4000000 in
theorem wq_ap_text (n : Nat) (hn : 4294967297 < n) (x1 : Int32) (σ : wt_St) : wt_T (wp_ap_text n x1 σ) (fun q => wt_fr (fun i k => (i = 1 ∧ k = 2) ∨ (i = 1 ∧ k = 3) ∨ (i = 1 ∧ k = 4) ∨ (i = 1 ∧ k = 5) ∨ (i = 1 ∧ k = 6) ∨ (i = 1 ∧ k = 7) ∨ (i = 34 ∧ k = 4)) (fun i => i = 3 ∨ i = 35 ∨ i = 38 ∨ i = 36 ∨ i = 37) σ q.2.2 ∧ (q.1 = 0 ∨ q.1 = 1) ∧ (x1.toInt < 0 ∨ (wt_gf σ 1 2).toInt < x1.toInt ∨ 200 < x1.toInt → (wt_gf q.2.2 1 2).toInt = (wt_gf σ 1 2).toInt) ∧ (0 ≤ x1.toInt ∧ x1.toInt ≤ (wt_gf σ 1 2).toInt ∧ x1.toInt ≤ 200 → (wt_gf q.2.2 1 2).toInt = 0)) := by
  unfold wp_ap_text
  have bb1 := wt_bd x1
  have k2 : (0 : Int32).toInt = 0 := by decide
  refine wt_T_if (fun h3 => ?_) (fun h3 => ?_)
  · skip
    have c4 := wt_clt h3
    unfold wp_ap_text_B22
    unfold wp_ap_text_B27
    have k5 : (1 : Int32).toInt = 1 := by decide
    refine wt_T_bi (wq_ap_refuse n hn (1 : Int32) σ) (fun r6 h7 => ?_)
    obtain ⟨e8, pp9⟩ := h7
    rw [e8]
    refine wt_T_if (fun h10 => ?_) (fun h10 => ?_)
    · skip
      refine wt_T_bi (wq_tp_begin n hn x1 σ) (fun r11 h12 => ?_)
      obtain ⟨f13, pp14⟩ := h12
      have bb15 := wt_bd (wt_gf r11 34 4)
      have tt16 : (wt_gf r11 34 4).toInt = (wt_gf σ 34 4).toInt := congrArg Int32.toInt (f13.1 34 4 (by (try dsimp only); omega))
      have bb17 := wt_bd (wt_gf σ 34 4)
      have k18 : (8 : Int32).toInt = 8 := by decide
      refine wt_T_if (fun h19 => ?_) (fun h19 => ?_)
      · skip
        have c20 := wt_clt h19
        refine wt_T_bi (wq_tx_fill n hn 20 r11) (fun r21 h22 => ?_)
        have f23 := h22
        have bb24 := wt_bd r21.1
        refine wt_T_if (fun h25 => ?_) (fun h25 => ?_)
        · skip
          have c26 := wt_ceq h25
          refine wt_T_some ?_
          have bb27 := wt_bd (wt_gf r21.2 1 2)
          have tt28 : (wt_gf r21.2 1 2).toInt = (wt_gf r11 1 2).toInt := congrArg Int32.toInt (f23.1 1 2 (by (try dsimp only); omega))
          have bb29 := wt_bd (wt_gf r11 1 2)
          have bb30 := wt_bd (wt_gf σ 1 2)
          exact ⟨(wt_fr.tr (wt_fr.tr wt_fr.rf f13 (fun i k h => by (try dsimp only at h); rcases h with h | h | h | h | h | h; exact Or.inl (by first | exact h | omega); exact Or.inr (Or.inl (by first | exact h | omega)); exact Or.inr (Or.inr (Or.inl (by first | exact h | omega))); exact Or.inr (Or.inr (Or.inr (Or.inl (by first | exact h | omega)))); exact Or.inr (Or.inr (Or.inr (Or.inr (Or.inl (by first | exact h | omega))))); exact Or.inr (Or.inr (Or.inr (Or.inr (Or.inr (Or.inl (by first | exact h | omega))))))) (fun i h => h.elim)) f23 (fun i k h => by (try dsimp only at h); rcases h with h | h | h | h | h; exact Or.inr (Or.inr (Or.inr (Or.inl (by first | exact h | omega)))); exact Or.inr (Or.inr (Or.inl (by first | exact h | omega))); exact Or.inr (Or.inr (Or.inr (Or.inr (Or.inl (by first | exact h | omega))))); exact Or.inr (Or.inr (Or.inr (Or.inr (Or.inr (Or.inl (by first | exact h | omega)))))); exact Or.inr (Or.inr (Or.inr (Or.inr (Or.inr (Or.inr (by first | exact h | omega))))))) (fun i h => by (try dsimp only at h); rcases h with h | h | h | h | h; exact Or.inl (by first | exact h | omega); exact Or.inr (Or.inl (by first | exact h | omega)); exact Or.inr (Or.inr (Or.inl (by first | exact h | omega))); exact Or.inr (Or.inr (Or.inr (Or.inl (by first | exact h | omega)))); exact Or.inr (Or.inr (Or.inr (Or.inr (by first | exact h | omega)))))), Or.inl rfl, (show (x1.toInt < 0 ∨ (wt_gf σ 1 2).toInt < x1.toInt ∨ 200 < x1.toInt → (wt_gf r21.2 1 2).toInt = (wt_gf σ 1 2).toInt) ∧ (0 ≤ x1.toInt ∧ x1.toInt ≤ (wt_gf σ 1 2).toInt ∧ x1.toInt ≤ 200 → (wt_gf r21.2 1 2).toInt = 0) by omega)⟩
        · skip
          have c31 := wt_nceq h25
          refine wt_T_some ?_
          have bb32 := wt_bd (wt_gf r21.2 1 2)
          have tt33 : (wt_gf r21.2 1 2).toInt = (wt_gf r11 1 2).toInt := congrArg Int32.toInt (f23.1 1 2 (by (try dsimp only); omega))
          have bb34 := wt_bd (wt_gf r11 1 2)
          have bb35 := wt_bd (wt_gf σ 1 2)
          exact ⟨(wt_fr.tr (wt_fr.tr wt_fr.rf f13 (fun i k h => by (try dsimp only at h); rcases h with h | h | h | h | h | h; exact Or.inl (by first | exact h | omega); exact Or.inr (Or.inl (by first | exact h | omega)); exact Or.inr (Or.inr (Or.inl (by first | exact h | omega))); exact Or.inr (Or.inr (Or.inr (Or.inl (by first | exact h | omega)))); exact Or.inr (Or.inr (Or.inr (Or.inr (Or.inl (by first | exact h | omega))))); exact Or.inr (Or.inr (Or.inr (Or.inr (Or.inr (Or.inl (by first | exact h | omega))))))) (fun i h => h.elim)) f23 (fun i k h => by (try dsimp only at h); rcases h with h | h | h | h | h; exact Or.inr (Or.inr (Or.inr (Or.inl (by first | exact h | omega)))); exact Or.inr (Or.inr (Or.inl (by first | exact h | omega))); exact Or.inr (Or.inr (Or.inr (Or.inr (Or.inl (by first | exact h | omega))))); exact Or.inr (Or.inr (Or.inr (Or.inr (Or.inr (Or.inl (by first | exact h | omega)))))); exact Or.inr (Or.inr (Or.inr (Or.inr (Or.inr (Or.inr (by first | exact h | omega))))))) (fun i h => by (try dsimp only at h); rcases h with h | h | h | h | h; exact Or.inl (by first | exact h | omega); exact Or.inr (Or.inl (by first | exact h | omega)); exact Or.inr (Or.inr (Or.inl (by first | exact h | omega))); exact Or.inr (Or.inr (Or.inr (Or.inl (by first | exact h | omega)))); exact Or.inr (Or.inr (Or.inr (Or.inr (by first | exact h | omega)))))), Or.inl rfl, (show (x1.toInt < 0 ∨ (wt_gf σ 1 2).toInt < x1.toInt ∨ 200 < x1.toInt → (wt_gf r21.2 1 2).toInt = (wt_gf σ 1 2).toInt) ∧ (0 ≤ x1.toInt ∧ x1.toInt ≤ (wt_gf σ 1 2).toInt ∧ x1.toInt ≤ 200 → (wt_gf r21.2 1 2).toInt = 0) by omega)⟩
      · skip
        have c36 := wt_ncl h19
        refine wt_T_some ?_
        have bb37 := wt_bd (wt_gf r11 1 2)
        have bb38 := wt_bd (wt_gf σ 1 2)
        exact ⟨(wt_fr.tr wt_fr.rf f13 (fun i k h => by (try dsimp only at h); rcases h with h | h | h | h | h | h; exact Or.inl (by first | exact h | omega); exact Or.inr (Or.inl (by first | exact h | omega)); exact Or.inr (Or.inr (Or.inl (by first | exact h | omega))); exact Or.inr (Or.inr (Or.inr (Or.inl (by first | exact h | omega)))); exact Or.inr (Or.inr (Or.inr (Or.inr (Or.inl (by first | exact h | omega))))); exact Or.inr (Or.inr (Or.inr (Or.inr (Or.inr (Or.inl (by first | exact h | omega))))))) (fun i h => h.elim)), Or.inl rfl, (show (x1.toInt < 0 ∨ (wt_gf σ 1 2).toInt < x1.toInt ∨ 200 < x1.toInt → (wt_gf r11 1 2).toInt = (wt_gf σ 1 2).toInt) ∧ (0 ≤ x1.toInt ∧ x1.toInt ≤ (wt_gf σ 1 2).toInt ∧ x1.toInt ≤ 200 → (wt_gf r11 1 2).toInt = 0) by omega)⟩
    · skip
      refine wt_T_some ?_
      have bb39 := wt_bd (wt_gf σ 1 2)
      exact ⟨wt_fr.rf, (by (try dsimp only); omega), (show (x1.toInt < 0 ∨ (wt_gf σ 1 2).toInt < x1.toInt ∨ 200 < x1.toInt → (wt_gf σ 1 2).toInt = (wt_gf σ 1 2).toInt) ∧ (0 ≤ x1.toInt ∧ x1.toInt ≤ (wt_gf σ 1 2).toInt ∧ x1.toInt ≤ 200 → (wt_gf σ 1 2).toInt = 0) by omega)⟩
  · skip
    have c40 := wt_ncl h3
    have bb41 := wt_bd (wt_gf σ 1 2)
    refine wt_T_if (fun h42 => ?_) (fun h42 => ?_)
    · skip
      have c43 := wt_clt h42
      unfold wp_ap_text_B22
      unfold wp_ap_text_B27
      have k44 : (1 : Int32).toInt = 1 := by decide
      refine wt_T_bi (wq_ap_refuse n hn (1 : Int32) σ) (fun r45 h46 => ?_)
      obtain ⟨e47, pp48⟩ := h46
      rw [e47]
      refine wt_T_if (fun h49 => ?_) (fun h49 => ?_)
      · skip
        refine wt_T_bi (wq_tp_begin n hn x1 σ) (fun r50 h51 => ?_)
        obtain ⟨f52, pp53⟩ := h51
        have bb54 := wt_bd (wt_gf r50 34 4)
        have tt55 : (wt_gf r50 34 4).toInt = (wt_gf σ 34 4).toInt := congrArg Int32.toInt (f52.1 34 4 (by (try dsimp only); omega))
        have bb56 := wt_bd (wt_gf σ 34 4)
        have k57 : (8 : Int32).toInt = 8 := by decide
        refine wt_T_if (fun h58 => ?_) (fun h58 => ?_)
        · skip
          have c59 := wt_clt h58
          refine wt_T_bi (wq_tx_fill n hn 20 r50) (fun r60 h61 => ?_)
          have f62 := h61
          have bb63 := wt_bd r60.1
          refine wt_T_if (fun h64 => ?_) (fun h64 => ?_)
          · skip
            have c65 := wt_ceq h64
            refine wt_T_some ?_
            have bb66 := wt_bd (wt_gf r60.2 1 2)
            have tt67 : (wt_gf r60.2 1 2).toInt = (wt_gf r50 1 2).toInt := congrArg Int32.toInt (f62.1 1 2 (by (try dsimp only); omega))
            have bb68 := wt_bd (wt_gf r50 1 2)
            exact ⟨(wt_fr.tr (wt_fr.tr wt_fr.rf f52 (fun i k h => by (try dsimp only at h); rcases h with h | h | h | h | h | h; exact Or.inl (by first | exact h | omega); exact Or.inr (Or.inl (by first | exact h | omega)); exact Or.inr (Or.inr (Or.inl (by first | exact h | omega))); exact Or.inr (Or.inr (Or.inr (Or.inl (by first | exact h | omega)))); exact Or.inr (Or.inr (Or.inr (Or.inr (Or.inl (by first | exact h | omega))))); exact Or.inr (Or.inr (Or.inr (Or.inr (Or.inr (Or.inl (by first | exact h | omega))))))) (fun i h => h.elim)) f62 (fun i k h => by (try dsimp only at h); rcases h with h | h | h | h | h; exact Or.inr (Or.inr (Or.inr (Or.inl (by first | exact h | omega)))); exact Or.inr (Or.inr (Or.inl (by first | exact h | omega))); exact Or.inr (Or.inr (Or.inr (Or.inr (Or.inl (by first | exact h | omega))))); exact Or.inr (Or.inr (Or.inr (Or.inr (Or.inr (Or.inl (by first | exact h | omega)))))); exact Or.inr (Or.inr (Or.inr (Or.inr (Or.inr (Or.inr (by first | exact h | omega))))))) (fun i h => by (try dsimp only at h); rcases h with h | h | h | h | h; exact Or.inl (by first | exact h | omega); exact Or.inr (Or.inl (by first | exact h | omega)); exact Or.inr (Or.inr (Or.inl (by first | exact h | omega))); exact Or.inr (Or.inr (Or.inr (Or.inl (by first | exact h | omega)))); exact Or.inr (Or.inr (Or.inr (Or.inr (by first | exact h | omega)))))), Or.inl rfl, (show (x1.toInt < 0 ∨ (wt_gf σ 1 2).toInt < x1.toInt ∨ 200 < x1.toInt → (wt_gf r60.2 1 2).toInt = (wt_gf σ 1 2).toInt) ∧ (0 ≤ x1.toInt ∧ x1.toInt ≤ (wt_gf σ 1 2).toInt ∧ x1.toInt ≤ 200 → (wt_gf r60.2 1 2).toInt = 0) by omega)⟩
          · skip
            have c69 := wt_nceq h64
            refine wt_T_some ?_
            have bb70 := wt_bd (wt_gf r60.2 1 2)
            have tt71 : (wt_gf r60.2 1 2).toInt = (wt_gf r50 1 2).toInt := congrArg Int32.toInt (f62.1 1 2 (by (try dsimp only); omega))
            have bb72 := wt_bd (wt_gf r50 1 2)
            exact ⟨(wt_fr.tr (wt_fr.tr wt_fr.rf f52 (fun i k h => by (try dsimp only at h); rcases h with h | h | h | h | h | h; exact Or.inl (by first | exact h | omega); exact Or.inr (Or.inl (by first | exact h | omega)); exact Or.inr (Or.inr (Or.inl (by first | exact h | omega))); exact Or.inr (Or.inr (Or.inr (Or.inl (by first | exact h | omega)))); exact Or.inr (Or.inr (Or.inr (Or.inr (Or.inl (by first | exact h | omega))))); exact Or.inr (Or.inr (Or.inr (Or.inr (Or.inr (Or.inl (by first | exact h | omega))))))) (fun i h => h.elim)) f62 (fun i k h => by (try dsimp only at h); rcases h with h | h | h | h | h; exact Or.inr (Or.inr (Or.inr (Or.inl (by first | exact h | omega)))); exact Or.inr (Or.inr (Or.inl (by first | exact h | omega))); exact Or.inr (Or.inr (Or.inr (Or.inr (Or.inl (by first | exact h | omega))))); exact Or.inr (Or.inr (Or.inr (Or.inr (Or.inr (Or.inl (by first | exact h | omega)))))); exact Or.inr (Or.inr (Or.inr (Or.inr (Or.inr (Or.inr (by first | exact h | omega))))))) (fun i h => by (try dsimp only at h); rcases h with h | h | h | h | h; exact Or.inl (by first | exact h | omega); exact Or.inr (Or.inl (by first | exact h | omega)); exact Or.inr (Or.inr (Or.inl (by first | exact h | omega))); exact Or.inr (Or.inr (Or.inr (Or.inl (by first | exact h | omega)))); exact Or.inr (Or.inr (Or.inr (Or.inr (by first | exact h | omega)))))), Or.inl rfl, (show (x1.toInt < 0 ∨ (wt_gf σ 1 2).toInt < x1.toInt ∨ 200 < x1.toInt → (wt_gf r60.2 1 2).toInt = (wt_gf σ 1 2).toInt) ∧ (0 ≤ x1.toInt ∧ x1.toInt ≤ (wt_gf σ 1 2).toInt ∧ x1.toInt ≤ 200 → (wt_gf r60.2 1 2).toInt = 0) by omega)⟩
        · skip
          have c73 := wt_ncl h58
          refine wt_T_some ?_
          have bb74 := wt_bd (wt_gf r50 1 2)
          exact ⟨(wt_fr.tr wt_fr.rf f52 (fun i k h => by (try dsimp only at h); rcases h with h | h | h | h | h | h; exact Or.inl (by first | exact h | omega); exact Or.inr (Or.inl (by first | exact h | omega)); exact Or.inr (Or.inr (Or.inl (by first | exact h | omega))); exact Or.inr (Or.inr (Or.inr (Or.inl (by first | exact h | omega)))); exact Or.inr (Or.inr (Or.inr (Or.inr (Or.inl (by first | exact h | omega))))); exact Or.inr (Or.inr (Or.inr (Or.inr (Or.inr (Or.inl (by first | exact h | omega))))))) (fun i h => h.elim)), Or.inl rfl, (show (x1.toInt < 0 ∨ (wt_gf σ 1 2).toInt < x1.toInt ∨ 200 < x1.toInt → (wt_gf r50 1 2).toInt = (wt_gf σ 1 2).toInt) ∧ (0 ≤ x1.toInt ∧ x1.toInt ≤ (wt_gf σ 1 2).toInt ∧ x1.toInt ≤ 200 → (wt_gf r50 1 2).toInt = 0) by omega)⟩
      · skip
        refine wt_T_some ?_
        exact ⟨wt_fr.rf, (by (try dsimp only); omega), (show (x1.toInt < 0 ∨ (wt_gf σ 1 2).toInt < x1.toInt ∨ 200 < x1.toInt → (wt_gf σ 1 2).toInt = (wt_gf σ 1 2).toInt) ∧ (0 ≤ x1.toInt ∧ x1.toInt ≤ (wt_gf σ 1 2).toInt ∧ x1.toInt ≤ 200 → (wt_gf σ 1 2).toInt = 0) by omega)⟩
    · skip
      have c75 := wt_ncl h42
      have k76 : (200 : Int32).toInt = 200 := by decide
      refine wt_T_if (fun h77 => ?_) (fun h77 => ?_)
      · skip
        have c78 := wt_cle h77
        unfold wp_ap_text_B27
        refine wt_T_bi (wq_ap_refuse n hn (0 : Int32) σ) (fun r79 h80 => ?_)
        obtain ⟨e81, pp82⟩ := h80
        rw [e81]
        refine wt_T_if (fun h83 => ?_) (fun h83 => ?_)
        · skip
          refine wt_T_bi (wq_tp_begin n hn x1 σ) (fun r84 h85 => ?_)
          obtain ⟨f86, pp87⟩ := h85
          have bb88 := wt_bd (wt_gf r84 34 4)
          have tt89 : (wt_gf r84 34 4).toInt = (wt_gf σ 34 4).toInt := congrArg Int32.toInt (f86.1 34 4 (by (try dsimp only); omega))
          have bb90 := wt_bd (wt_gf σ 34 4)
          have k91 : (8 : Int32).toInt = 8 := by decide
          refine wt_T_if (fun h92 => ?_) (fun h92 => ?_)
          · skip
            have c93 := wt_clt h92
            refine wt_T_bi (wq_tx_fill n hn 20 r84) (fun r94 h95 => ?_)
            have f96 := h95
            have bb97 := wt_bd r94.1
            refine wt_T_if (fun h98 => ?_) (fun h98 => ?_)
            · skip
              have c99 := wt_ceq h98
              refine wt_T_some ?_
              have bb100 := wt_bd (wt_gf r94.2 1 2)
              have tt101 : (wt_gf r94.2 1 2).toInt = (wt_gf r84 1 2).toInt := congrArg Int32.toInt (f96.1 1 2 (by (try dsimp only); omega))
              have bb102 := wt_bd (wt_gf r84 1 2)
              exact ⟨(wt_fr.tr (wt_fr.tr wt_fr.rf f86 (fun i k h => by (try dsimp only at h); rcases h with h | h | h | h | h | h; exact Or.inl (by first | exact h | omega); exact Or.inr (Or.inl (by first | exact h | omega)); exact Or.inr (Or.inr (Or.inl (by first | exact h | omega))); exact Or.inr (Or.inr (Or.inr (Or.inl (by first | exact h | omega)))); exact Or.inr (Or.inr (Or.inr (Or.inr (Or.inl (by first | exact h | omega))))); exact Or.inr (Or.inr (Or.inr (Or.inr (Or.inr (Or.inl (by first | exact h | omega))))))) (fun i h => h.elim)) f96 (fun i k h => by (try dsimp only at h); rcases h with h | h | h | h | h; exact Or.inr (Or.inr (Or.inr (Or.inl (by first | exact h | omega)))); exact Or.inr (Or.inr (Or.inl (by first | exact h | omega))); exact Or.inr (Or.inr (Or.inr (Or.inr (Or.inl (by first | exact h | omega))))); exact Or.inr (Or.inr (Or.inr (Or.inr (Or.inr (Or.inl (by first | exact h | omega)))))); exact Or.inr (Or.inr (Or.inr (Or.inr (Or.inr (Or.inr (by first | exact h | omega))))))) (fun i h => by (try dsimp only at h); rcases h with h | h | h | h | h; exact Or.inl (by first | exact h | omega); exact Or.inr (Or.inl (by first | exact h | omega)); exact Or.inr (Or.inr (Or.inl (by first | exact h | omega))); exact Or.inr (Or.inr (Or.inr (Or.inl (by first | exact h | omega)))); exact Or.inr (Or.inr (Or.inr (Or.inr (by first | exact h | omega)))))), Or.inl rfl, (show (x1.toInt < 0 ∨ (wt_gf σ 1 2).toInt < x1.toInt ∨ 200 < x1.toInt → (wt_gf r94.2 1 2).toInt = (wt_gf σ 1 2).toInt) ∧ (0 ≤ x1.toInt ∧ x1.toInt ≤ (wt_gf σ 1 2).toInt ∧ x1.toInt ≤ 200 → (wt_gf r94.2 1 2).toInt = 0) by omega)⟩
            · skip
              have c103 := wt_nceq h98
              refine wt_T_some ?_
              have bb104 := wt_bd (wt_gf r94.2 1 2)
              have tt105 : (wt_gf r94.2 1 2).toInt = (wt_gf r84 1 2).toInt := congrArg Int32.toInt (f96.1 1 2 (by (try dsimp only); omega))
              have bb106 := wt_bd (wt_gf r84 1 2)
              exact ⟨(wt_fr.tr (wt_fr.tr wt_fr.rf f86 (fun i k h => by (try dsimp only at h); rcases h with h | h | h | h | h | h; exact Or.inl (by first | exact h | omega); exact Or.inr (Or.inl (by first | exact h | omega)); exact Or.inr (Or.inr (Or.inl (by first | exact h | omega))); exact Or.inr (Or.inr (Or.inr (Or.inl (by first | exact h | omega)))); exact Or.inr (Or.inr (Or.inr (Or.inr (Or.inl (by first | exact h | omega))))); exact Or.inr (Or.inr (Or.inr (Or.inr (Or.inr (Or.inl (by first | exact h | omega))))))) (fun i h => h.elim)) f96 (fun i k h => by (try dsimp only at h); rcases h with h | h | h | h | h; exact Or.inr (Or.inr (Or.inr (Or.inl (by first | exact h | omega)))); exact Or.inr (Or.inr (Or.inl (by first | exact h | omega))); exact Or.inr (Or.inr (Or.inr (Or.inr (Or.inl (by first | exact h | omega))))); exact Or.inr (Or.inr (Or.inr (Or.inr (Or.inr (Or.inl (by first | exact h | omega)))))); exact Or.inr (Or.inr (Or.inr (Or.inr (Or.inr (Or.inr (by first | exact h | omega))))))) (fun i h => by (try dsimp only at h); rcases h with h | h | h | h | h; exact Or.inl (by first | exact h | omega); exact Or.inr (Or.inl (by first | exact h | omega)); exact Or.inr (Or.inr (Or.inl (by first | exact h | omega))); exact Or.inr (Or.inr (Or.inr (Or.inl (by first | exact h | omega)))); exact Or.inr (Or.inr (Or.inr (Or.inr (by first | exact h | omega)))))), Or.inl rfl, (show (x1.toInt < 0 ∨ (wt_gf σ 1 2).toInt < x1.toInt ∨ 200 < x1.toInt → (wt_gf r94.2 1 2).toInt = (wt_gf σ 1 2).toInt) ∧ (0 ≤ x1.toInt ∧ x1.toInt ≤ (wt_gf σ 1 2).toInt ∧ x1.toInt ≤ 200 → (wt_gf r94.2 1 2).toInt = 0) by omega)⟩
          · skip
            have c107 := wt_ncl h92
            refine wt_T_some ?_
            have bb108 := wt_bd (wt_gf r84 1 2)
            exact ⟨(wt_fr.tr wt_fr.rf f86 (fun i k h => by (try dsimp only at h); rcases h with h | h | h | h | h | h; exact Or.inl (by first | exact h | omega); exact Or.inr (Or.inl (by first | exact h | omega)); exact Or.inr (Or.inr (Or.inl (by first | exact h | omega))); exact Or.inr (Or.inr (Or.inr (Or.inl (by first | exact h | omega)))); exact Or.inr (Or.inr (Or.inr (Or.inr (Or.inl (by first | exact h | omega))))); exact Or.inr (Or.inr (Or.inr (Or.inr (Or.inr (Or.inl (by first | exact h | omega))))))) (fun i h => h.elim)), Or.inl rfl, (show (x1.toInt < 0 ∨ (wt_gf σ 1 2).toInt < x1.toInt ∨ 200 < x1.toInt → (wt_gf r84 1 2).toInt = (wt_gf σ 1 2).toInt) ∧ (0 ≤ x1.toInt ∧ x1.toInt ≤ (wt_gf σ 1 2).toInt ∧ x1.toInt ≤ 200 → (wt_gf r84 1 2).toInt = 0) by omega)⟩
        · skip
          refine wt_T_some ?_
          exact ⟨wt_fr.rf, (by (try dsimp only); omega), (show (x1.toInt < 0 ∨ (wt_gf σ 1 2).toInt < x1.toInt ∨ 200 < x1.toInt → (wt_gf σ 1 2).toInt = (wt_gf σ 1 2).toInt) ∧ (0 ≤ x1.toInt ∧ x1.toInt ≤ (wt_gf σ 1 2).toInt ∧ x1.toInt ≤ 200 → (wt_gf σ 1 2).toInt = 0) by omega)⟩
      · skip
        have c109 := wt_ncle h77
        unfold wp_ap_text_B22
        unfold wp_ap_text_B27
        have k110 : (1 : Int32).toInt = 1 := by decide
        refine wt_T_bi (wq_ap_refuse n hn (1 : Int32) σ) (fun r111 h112 => ?_)
        obtain ⟨e113, pp114⟩ := h112
        rw [e113]
        refine wt_T_if (fun h115 => ?_) (fun h115 => ?_)
        · skip
          refine wt_T_bi (wq_tp_begin n hn x1 σ) (fun r116 h117 => ?_)
          obtain ⟨f118, pp119⟩ := h117
          have bb120 := wt_bd (wt_gf r116 34 4)
          have tt121 : (wt_gf r116 34 4).toInt = (wt_gf σ 34 4).toInt := congrArg Int32.toInt (f118.1 34 4 (by (try dsimp only); omega))
          have bb122 := wt_bd (wt_gf σ 34 4)
          have k123 : (8 : Int32).toInt = 8 := by decide
          refine wt_T_if (fun h124 => ?_) (fun h124 => ?_)
          · skip
            have c125 := wt_clt h124
            refine wt_T_bi (wq_tx_fill n hn 20 r116) (fun r126 h127 => ?_)
            have f128 := h127
            have bb129 := wt_bd r126.1
            refine wt_T_if (fun h130 => ?_) (fun h130 => ?_)
            · skip
              have c131 := wt_ceq h130
              refine wt_T_some ?_
              have bb132 := wt_bd (wt_gf r126.2 1 2)
              have tt133 : (wt_gf r126.2 1 2).toInt = (wt_gf r116 1 2).toInt := congrArg Int32.toInt (f128.1 1 2 (by (try dsimp only); omega))
              have bb134 := wt_bd (wt_gf r116 1 2)
              exact ⟨(wt_fr.tr (wt_fr.tr wt_fr.rf f118 (fun i k h => by (try dsimp only at h); rcases h with h | h | h | h | h | h; exact Or.inl (by first | exact h | omega); exact Or.inr (Or.inl (by first | exact h | omega)); exact Or.inr (Or.inr (Or.inl (by first | exact h | omega))); exact Or.inr (Or.inr (Or.inr (Or.inl (by first | exact h | omega)))); exact Or.inr (Or.inr (Or.inr (Or.inr (Or.inl (by first | exact h | omega))))); exact Or.inr (Or.inr (Or.inr (Or.inr (Or.inr (Or.inl (by first | exact h | omega))))))) (fun i h => h.elim)) f128 (fun i k h => by (try dsimp only at h); rcases h with h | h | h | h | h; exact Or.inr (Or.inr (Or.inr (Or.inl (by first | exact h | omega)))); exact Or.inr (Or.inr (Or.inl (by first | exact h | omega))); exact Or.inr (Or.inr (Or.inr (Or.inr (Or.inl (by first | exact h | omega))))); exact Or.inr (Or.inr (Or.inr (Or.inr (Or.inr (Or.inl (by first | exact h | omega)))))); exact Or.inr (Or.inr (Or.inr (Or.inr (Or.inr (Or.inr (by first | exact h | omega))))))) (fun i h => by (try dsimp only at h); rcases h with h | h | h | h | h; exact Or.inl (by first | exact h | omega); exact Or.inr (Or.inl (by first | exact h | omega)); exact Or.inr (Or.inr (Or.inl (by first | exact h | omega))); exact Or.inr (Or.inr (Or.inr (Or.inl (by first | exact h | omega)))); exact Or.inr (Or.inr (Or.inr (Or.inr (by first | exact h | omega)))))), Or.inl rfl, (show (x1.toInt < 0 ∨ (wt_gf σ 1 2).toInt < x1.toInt ∨ 200 < x1.toInt → (wt_gf r126.2 1 2).toInt = (wt_gf σ 1 2).toInt) ∧ (0 ≤ x1.toInt ∧ x1.toInt ≤ (wt_gf σ 1 2).toInt ∧ x1.toInt ≤ 200 → (wt_gf r126.2 1 2).toInt = 0) by omega)⟩
            · skip
              have c135 := wt_nceq h130
              refine wt_T_some ?_
              have bb136 := wt_bd (wt_gf r126.2 1 2)
              have tt137 : (wt_gf r126.2 1 2).toInt = (wt_gf r116 1 2).toInt := congrArg Int32.toInt (f128.1 1 2 (by (try dsimp only); omega))
              have bb138 := wt_bd (wt_gf r116 1 2)
              exact ⟨(wt_fr.tr (wt_fr.tr wt_fr.rf f118 (fun i k h => by (try dsimp only at h); rcases h with h | h | h | h | h | h; exact Or.inl (by first | exact h | omega); exact Or.inr (Or.inl (by first | exact h | omega)); exact Or.inr (Or.inr (Or.inl (by first | exact h | omega))); exact Or.inr (Or.inr (Or.inr (Or.inl (by first | exact h | omega)))); exact Or.inr (Or.inr (Or.inr (Or.inr (Or.inl (by first | exact h | omega))))); exact Or.inr (Or.inr (Or.inr (Or.inr (Or.inr (Or.inl (by first | exact h | omega))))))) (fun i h => h.elim)) f128 (fun i k h => by (try dsimp only at h); rcases h with h | h | h | h | h; exact Or.inr (Or.inr (Or.inr (Or.inl (by first | exact h | omega)))); exact Or.inr (Or.inr (Or.inl (by first | exact h | omega))); exact Or.inr (Or.inr (Or.inr (Or.inr (Or.inl (by first | exact h | omega))))); exact Or.inr (Or.inr (Or.inr (Or.inr (Or.inr (Or.inl (by first | exact h | omega)))))); exact Or.inr (Or.inr (Or.inr (Or.inr (Or.inr (Or.inr (by first | exact h | omega))))))) (fun i h => by (try dsimp only at h); rcases h with h | h | h | h | h; exact Or.inl (by first | exact h | omega); exact Or.inr (Or.inl (by first | exact h | omega)); exact Or.inr (Or.inr (Or.inl (by first | exact h | omega))); exact Or.inr (Or.inr (Or.inr (Or.inl (by first | exact h | omega)))); exact Or.inr (Or.inr (Or.inr (Or.inr (by first | exact h | omega)))))), Or.inl rfl, (show (x1.toInt < 0 ∨ (wt_gf σ 1 2).toInt < x1.toInt ∨ 200 < x1.toInt → (wt_gf r126.2 1 2).toInt = (wt_gf σ 1 2).toInt) ∧ (0 ≤ x1.toInt ∧ x1.toInt ≤ (wt_gf σ 1 2).toInt ∧ x1.toInt ≤ 200 → (wt_gf r126.2 1 2).toInt = 0) by omega)⟩
          · skip
            have c139 := wt_ncl h124
            refine wt_T_some ?_
            have bb140 := wt_bd (wt_gf r116 1 2)
            exact ⟨(wt_fr.tr wt_fr.rf f118 (fun i k h => by (try dsimp only at h); rcases h with h | h | h | h | h | h; exact Or.inl (by first | exact h | omega); exact Or.inr (Or.inl (by first | exact h | omega)); exact Or.inr (Or.inr (Or.inl (by first | exact h | omega))); exact Or.inr (Or.inr (Or.inr (Or.inl (by first | exact h | omega)))); exact Or.inr (Or.inr (Or.inr (Or.inr (Or.inl (by first | exact h | omega))))); exact Or.inr (Or.inr (Or.inr (Or.inr (Or.inr (Or.inl (by first | exact h | omega))))))) (fun i h => h.elim)), Or.inl rfl, (show (x1.toInt < 0 ∨ (wt_gf σ 1 2).toInt < x1.toInt ∨ 200 < x1.toInt → (wt_gf r116 1 2).toInt = (wt_gf σ 1 2).toInt) ∧ (0 ≤ x1.toInt ∧ x1.toInt ≤ (wt_gf σ 1 2).toInt ∧ x1.toInt ≤ 200 → (wt_gf r116 1 2).toInt = 0) by omega)⟩
        · skip
          refine wt_T_some ?_
          exact ⟨wt_fr.rf, (by (try dsimp only); omega), (show (x1.toInt < 0 ∨ (wt_gf σ 1 2).toInt < x1.toInt ∨ 200 < x1.toInt → (wt_gf σ 1 2).toInt = (wt_gf σ 1 2).toInt) ∧ (0 ≤ x1.toInt ∧ x1.toInt ≤ (wt_gf σ 1 2).toInt ∧ x1.toInt ≤ 200 → (wt_gf σ 1 2).toInt = 0) by omega)⟩
set_option maxRecDepth 100000 in
set_option maxHeartbeats 4000000 in
theorem wq_ap_together (n : Nat) (hn : 4294967297 < n) (x1 : Int32) (σ : wt_St) : wt_T (wp_ap_together n x1 σ) (fun q => wt_fr (fun i k => False) (fun i => i = 106) σ q.2.2 ∧ (q.1 = 0 ∨ q.1 = 1)) := by
  unfold wp_ap_together
  refine wt_T_bi (wq_ap_refuseCopies n hn x1 σ) (fun r1 h2 => ?_)
  obtain ⟨e3, xx4⟩ := h2
  rw [e3]
  refine wt_T_if (fun h5 => ?_) (fun h5 => ?_)
  · skip
    refine wt_T_bi (wq_tr_mostAtOnce n hn x1 σ) (fun r6 h7 => ?_)
    have f8 := h7
    refine wt_T_some ?_
    exact ⟨(wt_fr.tr wt_fr.rf f8 (fun i k h => h.elim) (fun i h => by (try dsimp only at h); exact (by first | exact h | omega))), Or.inl rfl⟩
  · skip
    refine wt_T_some ?_
    exact ⟨wt_fr.rf, (by (try dsimp only); omega)⟩
set_option maxRecDepth 100000 in
set_option maxHeartbeats 4000000 in
theorem wq_ap_told (n : Nat) (hn : 4294967297 < n) (x1 : Int32) (σ : wt_St) : wt_T (wp_ap_told n x1 σ) (fun q => q.2.2 = σ ∧ (q.1 = 0 ∨ q.1 = 1)) := by
  unfold wp_ap_told
  have bb1 := wt_bd x1
  have k2 : (0 : Int32).toInt = 0 := by decide
  refine wt_T_if (fun h3 => ?_) (fun h3 => ?_)
  · skip
    have c4 := wt_ceq h3
    refine wt_T_bi (wq_sk_piecesOfAll n hn σ) (fun r5 h6 => ?_)
    have e7 := h6
    rw [e7]
    refine wt_T_some ?_
    exact ⟨rfl, Or.inl rfl⟩
  · skip
    have c8 := wt_nceq h3
    have k9 : (1 : Int32).toInt = 1 := by decide
    refine wt_T_if (fun h10 => ?_) (fun h10 => ?_)
    · skip
      have c11 := wt_ceq h10
      refine wt_T_some ?_
      exact ⟨rfl, Or.inl rfl⟩
    · skip
      have c12 := wt_nceq h10
      have k13 : (2 : Int32).toInt = 2 := by decide
      refine wt_T_if (fun h14 => ?_) (fun h14 => ?_)
      · skip
        have c15 := wt_ceq h14
        refine wt_T_some ?_
        exact ⟨rfl, Or.inl rfl⟩
      · skip
        have c16 := wt_nceq h14
        have k17 : (3 : Int32).toInt = 3 := by decide
        refine wt_T_if (fun h18 => ?_) (fun h18 => ?_)
        · skip
          have c19 := wt_ceq h18
          refine wt_T_bi (wq_pg_standing n hn σ) (fun r20 h21 => ?_)
          have e22 := h21
          rw [e22]
          refine wt_T_some ?_
          exact ⟨rfl, Or.inl rfl⟩
        · skip
          have c23 := wt_nceq h18
          have k24 : (4 : Int32).toInt = 4 := by decide
          refine wt_T_if (fun h25 => ?_) (fun h25 => ?_)
          · skip
            have c26 := wt_ceq h25
            refine wt_T_some ?_
            exact ⟨rfl, Or.inl rfl⟩
          · skip
            have c27 := wt_nceq h25
            have k28 : (5 : Int32).toInt = 5 := by decide
            refine wt_T_if (fun h29 => ?_) (fun h29 => ?_)
            · skip
              have c30 := wt_ceq h29
              refine wt_T_some ?_
              exact ⟨rfl, Or.inl rfl⟩
            · skip
              have c31 := wt_nceq h29
              have k32 : (6 : Int32).toInt = 6 := by decide
              refine wt_T_if (fun h33 => ?_) (fun h33 => ?_)
              · skip
                have c34 := wt_ceq h33
                refine wt_T_some ?_
                exact ⟨rfl, Or.inl rfl⟩
              · skip
                have c35 := wt_nceq h33
                have k36 : (7 : Int32).toInt = 7 := by decide
                refine wt_T_if (fun h37 => ?_) (fun h37 => ?_)
                · skip
                  have c38 := wt_ceq h37
                  refine wt_T_some ?_
                  exact ⟨rfl, Or.inl rfl⟩
                · skip
                  have c39 := wt_nceq h37
                  refine wt_T_some ?_
                  exact ⟨rfl, Or.inr (rfl)⟩
set_option maxRecDepth 100000 in
set_option maxHeartbeats 4000000 in
theorem wq_ap_tongue (n : Nat) (hn : 4294967297 < n) (x1 : Int32) (σ : wt_St) : wt_T (wp_ap_tongue n x1 σ) (fun q => wt_fr (fun i k => (i = 1 ∧ k = 2) ∨ (i = 1 ∧ k = 3) ∨ (i = 1 ∧ k = 4) ∨ (i = 1 ∧ k = 5) ∨ (i = 1 ∧ k = 6) ∨ (i = 1 ∧ k = 7) ∨ (i = 27 ∧ k = 6) ∨ (i = 27 ∧ k = 7) ∨ (i = 20 ∧ k = 6) ∨ (i = 20 ∧ k = 7) ∨ (i = 34 ∧ k = 4) ∨ (i = 39 ∧ k = 8) ∨ (i = 0 ∧ k = 14)) (fun i => i = 3 ∨ i = 29 ∨ i = 30 ∨ i = 31 ∨ i = 28 ∨ i = 32 ∨ i = 33 ∨ i = 21 ∨ i = 22 ∨ i = 23 ∨ i = 24 ∨ i = 25 ∨ i = 26 ∨ i = 41 ∨ i = 43) σ q.2.2 ∧ (q.1 = 0 ∨ q.1 = 1) ∧ (x1.toInt < 0 ∨ (wt_gf σ 1 2).toInt < x1.toInt → (wt_gf q.2.2 1 2).toInt = (wt_gf σ 1 2).toInt) ∧ (0 ≤ x1.toInt ∧ x1.toInt ≤ (wt_gf σ 1 2).toInt → (wt_gf q.2.2 1 2).toInt = 0)) := by
  unfold wp_ap_tongue
  have bb1 := wt_bd x1
  have k2 : (0 : Int32).toInt = 0 := by decide
  refine wt_T_if (fun h3 => ?_) (fun h3 => ?_)
  · skip
    have c4 := wt_clt h3
    unfold wp_ap_tongue_B15
    unfold wp_ap_tongue_B20
    have k5 : (1 : Int32).toInt = 1 := by decide
    refine wt_T_bi (wq_ap_refuse n hn (1 : Int32) σ) (fun r6 h7 => ?_)
    obtain ⟨e8, pp9⟩ := h7
    rw [e8]
    refine wt_T_if (fun h10 => ?_) (fun h10 => ?_)
    · skip
      refine wt_T_bi (wq_tp_begin n hn x1 σ) (fun r11 h12 => ?_)
      obtain ⟨f13, pp14⟩ := h12
      refine wt_T_bi (wq_tg_fill n hn 27 r11) (fun r15 h16 => ?_)
      have f17 := h16
      have bb18 := wt_bd r15.1
      refine wt_T_if (fun h19 => ?_) (fun h19 => ?_)
      · skip
        have c20 := wt_ceq h19
        refine wt_T_some ?_
        have bb21 := wt_bd (wt_gf r15.2 1 2)
        have tt22 : (wt_gf r15.2 1 2).toInt = (wt_gf r11 1 2).toInt := congrArg Int32.toInt (f17.1 1 2 (by (try dsimp only); omega))
        have bb23 := wt_bd (wt_gf r11 1 2)
        have bb24 := wt_bd (wt_gf σ 1 2)
        exact ⟨(wt_fr.tr (wt_fr.tr wt_fr.rf f13 (fun i k h => by (try dsimp only at h); rcases h with h | h | h | h | h | h; exact Or.inl (by first | exact h | omega); exact Or.inr (Or.inl (by first | exact h | omega)); exact Or.inr (Or.inr (Or.inl (by first | exact h | omega))); exact Or.inr (Or.inr (Or.inr (Or.inl (by first | exact h | omega)))); exact Or.inr (Or.inr (Or.inr (Or.inr (Or.inl (by first | exact h | omega))))); exact Or.inr (Or.inr (Or.inr (Or.inr (Or.inr (Or.inl (by first | exact h | omega))))))) (fun i h => h.elim)) f17 (fun i k h => by (try dsimp only at h); rcases h with h | h | h | h | h | h; exact Or.inr (Or.inr (Or.inr (Or.inr (Or.inr (Or.inr (Or.inl (by first | exact h | omega))))))); exact Or.inr (Or.inr (Or.inr (Or.inr (Or.inr (Or.inr (Or.inr (Or.inl (by first | exact h | omega)))))))); exact Or.inr (Or.inr (Or.inr (Or.inl (by first | exact h | omega)))); exact Or.inr (Or.inr (Or.inl (by first | exact h | omega))); exact Or.inr (Or.inr (Or.inr (Or.inr (Or.inl (by first | exact h | omega))))); exact Or.inr (Or.inr (Or.inr (Or.inr (Or.inr (Or.inl (by first | exact h | omega))))))) (fun i h => by (try dsimp only at h); rcases h with h | h | h | h | h | h | h; exact Or.inl (by first | exact h | omega); exact Or.inr (Or.inl (by first | exact h | omega)); exact Or.inr (Or.inr (Or.inl (by first | exact h | omega))); exact Or.inr (Or.inr (Or.inr (Or.inl (by first | exact h | omega)))); exact Or.inr (Or.inr (Or.inr (Or.inr (Or.inl (by first | exact h | omega))))); exact Or.inr (Or.inr (Or.inr (Or.inr (Or.inr (Or.inl (by first | exact h | omega)))))); exact Or.inr (Or.inr (Or.inr (Or.inr (Or.inr (Or.inr (Or.inl (by first | exact h | omega))))))))), Or.inl rfl, (show (x1.toInt < 0 ∨ (wt_gf σ 1 2).toInt < x1.toInt → (wt_gf r15.2 1 2).toInt = (wt_gf σ 1 2).toInt) ∧ (0 ≤ x1.toInt ∧ x1.toInt ≤ (wt_gf σ 1 2).toInt → (wt_gf r15.2 1 2).toInt = 0) by omega)⟩
      · skip
        have c25 := wt_nceq h19
        refine wt_T_bi (wq_tg_become n hn 20 27 r15.2) (fun r26 h27 => ?_)
        have f28 := h27
        obtain ⟨σ29, eσ29⟩ : ∃ z : wt_St, z = wt_sf r26 34 4 (0 : Int32) := ⟨_, rfl⟩
        rw [← eσ29]
        have fσ29 := wt_fr_sf eσ29
        have vσ29 := wt_ceq (wt_v_sf eσ29)
        obtain ⟨σ30, eσ30⟩ : ∃ z : wt_St, z = wt_sf σ29 39 8 (0 : Int32) := ⟨_, rfl⟩
        rw [← eσ30]
        have fσ30 := wt_fr_sf eσ30
        have vσ30 := wt_ceq (wt_v_sf eσ30)
        refine wt_T_bi (wq_st_clearPages n hn 39 σ30) (fun r31 h32 => ?_)
        have f33 := h32
        obtain ⟨σ34, eσ34⟩ : ∃ z : wt_St, z = wt_sf r31 0 14 (0 : Int32) := ⟨_, rfl⟩
        rw [← eσ34]
        have fσ34 := wt_fr_sf eσ34
        have vσ34 := wt_ceq (wt_v_sf eσ34)
        refine wt_T_some ?_
        have bb35 := wt_bd (wt_gf σ34 1 2)
        have tt36 : (wt_gf σ34 1 2).toInt = (wt_gf r31 1 2).toInt := congrArg Int32.toInt (fσ34.1 1 2 (by (try dsimp only); omega))
        have bb37 := wt_bd (wt_gf r31 1 2)
        have tt38 : (wt_gf r31 1 2).toInt = (wt_gf σ30 1 2).toInt := congrArg Int32.toInt (f33.1 1 2 (fun z => z))
        have bb39 := wt_bd (wt_gf σ30 1 2)
        have tt40 : (wt_gf σ30 1 2).toInt = (wt_gf σ29 1 2).toInt := congrArg Int32.toInt (fσ30.1 1 2 (by (try dsimp only); omega))
        have bb41 := wt_bd (wt_gf σ29 1 2)
        have tt42 : (wt_gf σ29 1 2).toInt = (wt_gf r26 1 2).toInt := congrArg Int32.toInt (fσ29.1 1 2 (by (try dsimp only); omega))
        have bb43 := wt_bd (wt_gf r26 1 2)
        have tt44 : (wt_gf r26 1 2).toInt = (wt_gf r15.2 1 2).toInt := congrArg Int32.toInt (f28.1 1 2 (by (try dsimp only); omega))
        have bb45 := wt_bd (wt_gf r15.2 1 2)
        have tt46 : (wt_gf r15.2 1 2).toInt = (wt_gf r11 1 2).toInt := congrArg Int32.toInt (f17.1 1 2 (by (try dsimp only); omega))
        have bb47 := wt_bd (wt_gf r11 1 2)
        have bb48 := wt_bd (wt_gf σ 1 2)
        exact ⟨(wt_fr.tr (wt_fr.tr (wt_fr.tr (wt_fr.tr (wt_fr.tr (wt_fr.tr (wt_fr.tr wt_fr.rf f13 (fun i k h => by (try dsimp only at h); rcases h with h | h | h | h | h | h; exact Or.inl (by first | exact h | omega); exact Or.inr (Or.inl (by first | exact h | omega)); exact Or.inr (Or.inr (Or.inl (by first | exact h | omega))); exact Or.inr (Or.inr (Or.inr (Or.inl (by first | exact h | omega)))); exact Or.inr (Or.inr (Or.inr (Or.inr (Or.inl (by first | exact h | omega))))); exact Or.inr (Or.inr (Or.inr (Or.inr (Or.inr (Or.inl (by first | exact h | omega))))))) (fun i h => h.elim)) f17 (fun i k h => by (try dsimp only at h); rcases h with h | h | h | h | h | h; exact Or.inr (Or.inr (Or.inr (Or.inr (Or.inr (Or.inr (Or.inl (by first | exact h | omega))))))); exact Or.inr (Or.inr (Or.inr (Or.inr (Or.inr (Or.inr (Or.inr (Or.inl (by first | exact h | omega)))))))); exact Or.inr (Or.inr (Or.inr (Or.inl (by first | exact h | omega)))); exact Or.inr (Or.inr (Or.inl (by first | exact h | omega))); exact Or.inr (Or.inr (Or.inr (Or.inr (Or.inl (by first | exact h | omega))))); exact Or.inr (Or.inr (Or.inr (Or.inr (Or.inr (Or.inl (by first | exact h | omega))))))) (fun i h => by (try dsimp only at h); rcases h with h | h | h | h | h | h | h; exact Or.inl (by first | exact h | omega); exact Or.inr (Or.inl (by first | exact h | omega)); exact Or.inr (Or.inr (Or.inl (by first | exact h | omega))); exact Or.inr (Or.inr (Or.inr (Or.inl (by first | exact h | omega)))); exact Or.inr (Or.inr (Or.inr (Or.inr (Or.inl (by first | exact h | omega))))); exact Or.inr (Or.inr (Or.inr (Or.inr (Or.inr (Or.inl (by first | exact h | omega)))))); exact Or.inr (Or.inr (Or.inr (Or.inr (Or.inr (Or.inr (Or.inl (by first | exact h | omega))))))))) f28 (fun i k h => by (try dsimp only at h); rcases h with h | h; exact Or.inr (Or.inr (Or.inr (Or.inr (Or.inr (Or.inr (Or.inr (Or.inr (Or.inl (by first | exact h | omega))))))))); exact Or.inr (Or.inr (Or.inr (Or.inr (Or.inr (Or.inr (Or.inr (Or.inr (Or.inr (Or.inl (by first | exact h | omega))))))))))) (fun i h => by (try dsimp only at h); rcases h with h | h | h | h | h | h; exact Or.inr (Or.inr (Or.inr (Or.inr (Or.inr (Or.inr (Or.inr (Or.inl (by first | exact h | omega)))))))); exact Or.inr (Or.inr (Or.inr (Or.inr (Or.inr (Or.inr (Or.inr (Or.inr (Or.inl (by first | exact h | omega))))))))); exact Or.inr (Or.inr (Or.inr (Or.inr (Or.inr (Or.inr (Or.inr (Or.inr (Or.inr (Or.inl (by first | exact h | omega)))))))))); exact Or.inr (Or.inr (Or.inr (Or.inr (Or.inr (Or.inr (Or.inr (Or.inr (Or.inr (Or.inr (Or.inl (by first | exact h | omega))))))))))); exact Or.inr (Or.inr (Or.inr (Or.inr (Or.inr (Or.inr (Or.inr (Or.inr (Or.inr (Or.inr (Or.inr (Or.inl (by first | exact h | omega)))))))))))); exact Or.inr (Or.inr (Or.inr (Or.inr (Or.inr (Or.inr (Or.inr (Or.inr (Or.inr (Or.inr (Or.inr (Or.inr (Or.inl (by first | exact h | omega))))))))))))))) fσ29 (fun i k h => by (try dsimp only at h); exact Or.inr (Or.inr (Or.inr (Or.inr (Or.inr (Or.inr (Or.inr (Or.inr (Or.inr (Or.inr (Or.inl (by first | exact h | omega)))))))))))) (fun i h => h.elim)) fσ30 (fun i k h => by (try dsimp only at h); exact Or.inr (Or.inr (Or.inr (Or.inr (Or.inr (Or.inr (Or.inr (Or.inr (Or.inr (Or.inr (Or.inr (Or.inl (by first | exact h | omega))))))))))))) (fun i h => h.elim)) f33 (fun i k h => h.elim) (fun i h => by (try dsimp only at h); rcases h with h | h; exact Or.inr (Or.inr (Or.inr (Or.inr (Or.inr (Or.inr (Or.inr (Or.inr (Or.inr (Or.inr (Or.inr (Or.inr (Or.inr (Or.inl (by first | exact h | omega)))))))))))))); exact Or.inr (Or.inr (Or.inr (Or.inr (Or.inr (Or.inr (Or.inr (Or.inr (Or.inr (Or.inr (Or.inr (Or.inr (Or.inr (Or.inr (by first | exact h | omega)))))))))))))))) fσ34 (fun i k h => by (try dsimp only at h); exact Or.inr (Or.inr (Or.inr (Or.inr (Or.inr (Or.inr (Or.inr (Or.inr (Or.inr (Or.inr (Or.inr (Or.inr (by first | exact h | omega))))))))))))) (fun i h => h.elim)), Or.inl rfl, (show (x1.toInt < 0 ∨ (wt_gf σ 1 2).toInt < x1.toInt → (wt_gf σ34 1 2).toInt = (wt_gf σ 1 2).toInt) ∧ (0 ≤ x1.toInt ∧ x1.toInt ≤ (wt_gf σ 1 2).toInt → (wt_gf σ34 1 2).toInt = 0) by omega)⟩
    · skip
      refine wt_T_some ?_
      have bb49 := wt_bd (wt_gf σ 1 2)
      exact ⟨wt_fr.rf, (by (try dsimp only); omega), (show (x1.toInt < 0 ∨ (wt_gf σ 1 2).toInt < x1.toInt → (wt_gf σ 1 2).toInt = (wt_gf σ 1 2).toInt) ∧ (0 ≤ x1.toInt ∧ x1.toInt ≤ (wt_gf σ 1 2).toInt → (wt_gf σ 1 2).toInt = 0) by omega)⟩
  · skip
    have c50 := wt_ncl h3
    have bb51 := wt_bd (wt_gf σ 1 2)
    refine wt_T_if (fun h52 => ?_) (fun h52 => ?_)
    · skip
      have c53 := wt_cle h52
      unfold wp_ap_tongue_B20
      refine wt_T_bi (wq_ap_refuse n hn (0 : Int32) σ) (fun r54 h55 => ?_)
      obtain ⟨e56, pp57⟩ := h55
      rw [e56]
      refine wt_T_if (fun h58 => ?_) (fun h58 => ?_)
      · skip
        refine wt_T_bi (wq_tp_begin n hn x1 σ) (fun r59 h60 => ?_)
        obtain ⟨f61, pp62⟩ := h60
        refine wt_T_bi (wq_tg_fill n hn 27 r59) (fun r63 h64 => ?_)
        have f65 := h64
        have bb66 := wt_bd r63.1
        refine wt_T_if (fun h67 => ?_) (fun h67 => ?_)
        · skip
          have c68 := wt_ceq h67
          refine wt_T_some ?_
          have bb69 := wt_bd (wt_gf r63.2 1 2)
          have tt70 : (wt_gf r63.2 1 2).toInt = (wt_gf r59 1 2).toInt := congrArg Int32.toInt (f65.1 1 2 (by (try dsimp only); omega))
          have bb71 := wt_bd (wt_gf r59 1 2)
          exact ⟨(wt_fr.tr (wt_fr.tr wt_fr.rf f61 (fun i k h => by (try dsimp only at h); rcases h with h | h | h | h | h | h; exact Or.inl (by first | exact h | omega); exact Or.inr (Or.inl (by first | exact h | omega)); exact Or.inr (Or.inr (Or.inl (by first | exact h | omega))); exact Or.inr (Or.inr (Or.inr (Or.inl (by first | exact h | omega)))); exact Or.inr (Or.inr (Or.inr (Or.inr (Or.inl (by first | exact h | omega))))); exact Or.inr (Or.inr (Or.inr (Or.inr (Or.inr (Or.inl (by first | exact h | omega))))))) (fun i h => h.elim)) f65 (fun i k h => by (try dsimp only at h); rcases h with h | h | h | h | h | h; exact Or.inr (Or.inr (Or.inr (Or.inr (Or.inr (Or.inr (Or.inl (by first | exact h | omega))))))); exact Or.inr (Or.inr (Or.inr (Or.inr (Or.inr (Or.inr (Or.inr (Or.inl (by first | exact h | omega)))))))); exact Or.inr (Or.inr (Or.inr (Or.inl (by first | exact h | omega)))); exact Or.inr (Or.inr (Or.inl (by first | exact h | omega))); exact Or.inr (Or.inr (Or.inr (Or.inr (Or.inl (by first | exact h | omega))))); exact Or.inr (Or.inr (Or.inr (Or.inr (Or.inr (Or.inl (by first | exact h | omega))))))) (fun i h => by (try dsimp only at h); rcases h with h | h | h | h | h | h | h; exact Or.inl (by first | exact h | omega); exact Or.inr (Or.inl (by first | exact h | omega)); exact Or.inr (Or.inr (Or.inl (by first | exact h | omega))); exact Or.inr (Or.inr (Or.inr (Or.inl (by first | exact h | omega)))); exact Or.inr (Or.inr (Or.inr (Or.inr (Or.inl (by first | exact h | omega))))); exact Or.inr (Or.inr (Or.inr (Or.inr (Or.inr (Or.inl (by first | exact h | omega)))))); exact Or.inr (Or.inr (Or.inr (Or.inr (Or.inr (Or.inr (Or.inl (by first | exact h | omega))))))))), Or.inl rfl, (show (x1.toInt < 0 ∨ (wt_gf σ 1 2).toInt < x1.toInt → (wt_gf r63.2 1 2).toInt = (wt_gf σ 1 2).toInt) ∧ (0 ≤ x1.toInt ∧ x1.toInt ≤ (wt_gf σ 1 2).toInt → (wt_gf r63.2 1 2).toInt = 0) by omega)⟩
        · skip
          have c72 := wt_nceq h67
          refine wt_T_bi (wq_tg_become n hn 20 27 r63.2) (fun r73 h74 => ?_)
          have f75 := h74
          obtain ⟨σ76, eσ76⟩ : ∃ z : wt_St, z = wt_sf r73 34 4 (0 : Int32) := ⟨_, rfl⟩
          rw [← eσ76]
          have fσ76 := wt_fr_sf eσ76
          have vσ76 := wt_ceq (wt_v_sf eσ76)
          obtain ⟨σ77, eσ77⟩ : ∃ z : wt_St, z = wt_sf σ76 39 8 (0 : Int32) := ⟨_, rfl⟩
          rw [← eσ77]
          have fσ77 := wt_fr_sf eσ77
          have vσ77 := wt_ceq (wt_v_sf eσ77)
          refine wt_T_bi (wq_st_clearPages n hn 39 σ77) (fun r78 h79 => ?_)
          have f80 := h79
          obtain ⟨σ81, eσ81⟩ : ∃ z : wt_St, z = wt_sf r78 0 14 (0 : Int32) := ⟨_, rfl⟩
          rw [← eσ81]
          have fσ81 := wt_fr_sf eσ81
          have vσ81 := wt_ceq (wt_v_sf eσ81)
          refine wt_T_some ?_
          have bb82 := wt_bd (wt_gf σ81 1 2)
          have tt83 : (wt_gf σ81 1 2).toInt = (wt_gf r78 1 2).toInt := congrArg Int32.toInt (fσ81.1 1 2 (by (try dsimp only); omega))
          have bb84 := wt_bd (wt_gf r78 1 2)
          have tt85 : (wt_gf r78 1 2).toInt = (wt_gf σ77 1 2).toInt := congrArg Int32.toInt (f80.1 1 2 (fun z => z))
          have bb86 := wt_bd (wt_gf σ77 1 2)
          have tt87 : (wt_gf σ77 1 2).toInt = (wt_gf σ76 1 2).toInt := congrArg Int32.toInt (fσ77.1 1 2 (by (try dsimp only); omega))
          have bb88 := wt_bd (wt_gf σ76 1 2)
          have tt89 : (wt_gf σ76 1 2).toInt = (wt_gf r73 1 2).toInt := congrArg Int32.toInt (fσ76.1 1 2 (by (try dsimp only); omega))
          have bb90 := wt_bd (wt_gf r73 1 2)
          have tt91 : (wt_gf r73 1 2).toInt = (wt_gf r63.2 1 2).toInt := congrArg Int32.toInt (f75.1 1 2 (by (try dsimp only); omega))
          have bb92 := wt_bd (wt_gf r63.2 1 2)
          have tt93 : (wt_gf r63.2 1 2).toInt = (wt_gf r59 1 2).toInt := congrArg Int32.toInt (f65.1 1 2 (by (try dsimp only); omega))
          have bb94 := wt_bd (wt_gf r59 1 2)
          exact ⟨(wt_fr.tr (wt_fr.tr (wt_fr.tr (wt_fr.tr (wt_fr.tr (wt_fr.tr (wt_fr.tr wt_fr.rf f61 (fun i k h => by (try dsimp only at h); rcases h with h | h | h | h | h | h; exact Or.inl (by first | exact h | omega); exact Or.inr (Or.inl (by first | exact h | omega)); exact Or.inr (Or.inr (Or.inl (by first | exact h | omega))); exact Or.inr (Or.inr (Or.inr (Or.inl (by first | exact h | omega)))); exact Or.inr (Or.inr (Or.inr (Or.inr (Or.inl (by first | exact h | omega))))); exact Or.inr (Or.inr (Or.inr (Or.inr (Or.inr (Or.inl (by first | exact h | omega))))))) (fun i h => h.elim)) f65 (fun i k h => by (try dsimp only at h); rcases h with h | h | h | h | h | h; exact Or.inr (Or.inr (Or.inr (Or.inr (Or.inr (Or.inr (Or.inl (by first | exact h | omega))))))); exact Or.inr (Or.inr (Or.inr (Or.inr (Or.inr (Or.inr (Or.inr (Or.inl (by first | exact h | omega)))))))); exact Or.inr (Or.inr (Or.inr (Or.inl (by first | exact h | omega)))); exact Or.inr (Or.inr (Or.inl (by first | exact h | omega))); exact Or.inr (Or.inr (Or.inr (Or.inr (Or.inl (by first | exact h | omega))))); exact Or.inr (Or.inr (Or.inr (Or.inr (Or.inr (Or.inl (by first | exact h | omega))))))) (fun i h => by (try dsimp only at h); rcases h with h | h | h | h | h | h | h; exact Or.inl (by first | exact h | omega); exact Or.inr (Or.inl (by first | exact h | omega)); exact Or.inr (Or.inr (Or.inl (by first | exact h | omega))); exact Or.inr (Or.inr (Or.inr (Or.inl (by first | exact h | omega)))); exact Or.inr (Or.inr (Or.inr (Or.inr (Or.inl (by first | exact h | omega))))); exact Or.inr (Or.inr (Or.inr (Or.inr (Or.inr (Or.inl (by first | exact h | omega)))))); exact Or.inr (Or.inr (Or.inr (Or.inr (Or.inr (Or.inr (Or.inl (by first | exact h | omega))))))))) f75 (fun i k h => by (try dsimp only at h); rcases h with h | h; exact Or.inr (Or.inr (Or.inr (Or.inr (Or.inr (Or.inr (Or.inr (Or.inr (Or.inl (by first | exact h | omega))))))))); exact Or.inr (Or.inr (Or.inr (Or.inr (Or.inr (Or.inr (Or.inr (Or.inr (Or.inr (Or.inl (by first | exact h | omega))))))))))) (fun i h => by (try dsimp only at h); rcases h with h | h | h | h | h | h; exact Or.inr (Or.inr (Or.inr (Or.inr (Or.inr (Or.inr (Or.inr (Or.inl (by first | exact h | omega)))))))); exact Or.inr (Or.inr (Or.inr (Or.inr (Or.inr (Or.inr (Or.inr (Or.inr (Or.inl (by first | exact h | omega))))))))); exact Or.inr (Or.inr (Or.inr (Or.inr (Or.inr (Or.inr (Or.inr (Or.inr (Or.inr (Or.inl (by first | exact h | omega)))))))))); exact Or.inr (Or.inr (Or.inr (Or.inr (Or.inr (Or.inr (Or.inr (Or.inr (Or.inr (Or.inr (Or.inl (by first | exact h | omega))))))))))); exact Or.inr (Or.inr (Or.inr (Or.inr (Or.inr (Or.inr (Or.inr (Or.inr (Or.inr (Or.inr (Or.inr (Or.inl (by first | exact h | omega)))))))))))); exact Or.inr (Or.inr (Or.inr (Or.inr (Or.inr (Or.inr (Or.inr (Or.inr (Or.inr (Or.inr (Or.inr (Or.inr (Or.inl (by first | exact h | omega))))))))))))))) fσ76 (fun i k h => by (try dsimp only at h); exact Or.inr (Or.inr (Or.inr (Or.inr (Or.inr (Or.inr (Or.inr (Or.inr (Or.inr (Or.inr (Or.inl (by first | exact h | omega)))))))))))) (fun i h => h.elim)) fσ77 (fun i k h => by (try dsimp only at h); exact Or.inr (Or.inr (Or.inr (Or.inr (Or.inr (Or.inr (Or.inr (Or.inr (Or.inr (Or.inr (Or.inr (Or.inl (by first | exact h | omega))))))))))))) (fun i h => h.elim)) f80 (fun i k h => h.elim) (fun i h => by (try dsimp only at h); rcases h with h | h; exact Or.inr (Or.inr (Or.inr (Or.inr (Or.inr (Or.inr (Or.inr (Or.inr (Or.inr (Or.inr (Or.inr (Or.inr (Or.inr (Or.inl (by first | exact h | omega)))))))))))))); exact Or.inr (Or.inr (Or.inr (Or.inr (Or.inr (Or.inr (Or.inr (Or.inr (Or.inr (Or.inr (Or.inr (Or.inr (Or.inr (Or.inr (by first | exact h | omega)))))))))))))))) fσ81 (fun i k h => by (try dsimp only at h); exact Or.inr (Or.inr (Or.inr (Or.inr (Or.inr (Or.inr (Or.inr (Or.inr (Or.inr (Or.inr (Or.inr (Or.inr (by first | exact h | omega))))))))))))) (fun i h => h.elim)), Or.inl rfl, (show (x1.toInt < 0 ∨ (wt_gf σ 1 2).toInt < x1.toInt → (wt_gf σ81 1 2).toInt = (wt_gf σ 1 2).toInt) ∧ (0 ≤ x1.toInt ∧ x1.toInt ≤ (wt_gf σ 1 2).toInt → (wt_gf σ81 1 2).toInt = 0) by omega)⟩
      · skip
        refine wt_T_some ?_
        exact ⟨wt_fr.rf, (by (try dsimp only); omega), (show (x1.toInt < 0 ∨ (wt_gf σ 1 2).toInt < x1.toInt → (wt_gf σ 1 2).toInt = (wt_gf σ 1 2).toInt) ∧ (0 ≤ x1.toInt ∧ x1.toInt ≤ (wt_gf σ 1 2).toInt → (wt_gf σ 1 2).toInt = 0) by omega)⟩
    · skip
      have c95 := wt_ncle h52
      unfold wp_ap_tongue_B15
      unfold wp_ap_tongue_B20
      have k96 : (1 : Int32).toInt = 1 := by decide
      refine wt_T_bi (wq_ap_refuse n hn (1 : Int32) σ) (fun r97 h98 => ?_)
      obtain ⟨e99, pp100⟩ := h98
      rw [e99]
      refine wt_T_if (fun h101 => ?_) (fun h101 => ?_)
      · skip
        refine wt_T_bi (wq_tp_begin n hn x1 σ) (fun r102 h103 => ?_)
        obtain ⟨f104, pp105⟩ := h103
        refine wt_T_bi (wq_tg_fill n hn 27 r102) (fun r106 h107 => ?_)
        have f108 := h107
        have bb109 := wt_bd r106.1
        refine wt_T_if (fun h110 => ?_) (fun h110 => ?_)
        · skip
          have c111 := wt_ceq h110
          refine wt_T_some ?_
          have bb112 := wt_bd (wt_gf r106.2 1 2)
          have tt113 : (wt_gf r106.2 1 2).toInt = (wt_gf r102 1 2).toInt := congrArg Int32.toInt (f108.1 1 2 (by (try dsimp only); omega))
          have bb114 := wt_bd (wt_gf r102 1 2)
          exact ⟨(wt_fr.tr (wt_fr.tr wt_fr.rf f104 (fun i k h => by (try dsimp only at h); rcases h with h | h | h | h | h | h; exact Or.inl (by first | exact h | omega); exact Or.inr (Or.inl (by first | exact h | omega)); exact Or.inr (Or.inr (Or.inl (by first | exact h | omega))); exact Or.inr (Or.inr (Or.inr (Or.inl (by first | exact h | omega)))); exact Or.inr (Or.inr (Or.inr (Or.inr (Or.inl (by first | exact h | omega))))); exact Or.inr (Or.inr (Or.inr (Or.inr (Or.inr (Or.inl (by first | exact h | omega))))))) (fun i h => h.elim)) f108 (fun i k h => by (try dsimp only at h); rcases h with h | h | h | h | h | h; exact Or.inr (Or.inr (Or.inr (Or.inr (Or.inr (Or.inr (Or.inl (by first | exact h | omega))))))); exact Or.inr (Or.inr (Or.inr (Or.inr (Or.inr (Or.inr (Or.inr (Or.inl (by first | exact h | omega)))))))); exact Or.inr (Or.inr (Or.inr (Or.inl (by first | exact h | omega)))); exact Or.inr (Or.inr (Or.inl (by first | exact h | omega))); exact Or.inr (Or.inr (Or.inr (Or.inr (Or.inl (by first | exact h | omega))))); exact Or.inr (Or.inr (Or.inr (Or.inr (Or.inr (Or.inl (by first | exact h | omega))))))) (fun i h => by (try dsimp only at h); rcases h with h | h | h | h | h | h | h; exact Or.inl (by first | exact h | omega); exact Or.inr (Or.inl (by first | exact h | omega)); exact Or.inr (Or.inr (Or.inl (by first | exact h | omega))); exact Or.inr (Or.inr (Or.inr (Or.inl (by first | exact h | omega)))); exact Or.inr (Or.inr (Or.inr (Or.inr (Or.inl (by first | exact h | omega))))); exact Or.inr (Or.inr (Or.inr (Or.inr (Or.inr (Or.inl (by first | exact h | omega)))))); exact Or.inr (Or.inr (Or.inr (Or.inr (Or.inr (Or.inr (Or.inl (by first | exact h | omega))))))))), Or.inl rfl, (show (x1.toInt < 0 ∨ (wt_gf σ 1 2).toInt < x1.toInt → (wt_gf r106.2 1 2).toInt = (wt_gf σ 1 2).toInt) ∧ (0 ≤ x1.toInt ∧ x1.toInt ≤ (wt_gf σ 1 2).toInt → (wt_gf r106.2 1 2).toInt = 0) by omega)⟩
        · skip
          have c115 := wt_nceq h110
          refine wt_T_bi (wq_tg_become n hn 20 27 r106.2) (fun r116 h117 => ?_)
          have f118 := h117
          obtain ⟨σ119, eσ119⟩ : ∃ z : wt_St, z = wt_sf r116 34 4 (0 : Int32) := ⟨_, rfl⟩
          rw [← eσ119]
          have fσ119 := wt_fr_sf eσ119
          have vσ119 := wt_ceq (wt_v_sf eσ119)
          obtain ⟨σ120, eσ120⟩ : ∃ z : wt_St, z = wt_sf σ119 39 8 (0 : Int32) := ⟨_, rfl⟩
          rw [← eσ120]
          have fσ120 := wt_fr_sf eσ120
          have vσ120 := wt_ceq (wt_v_sf eσ120)
          refine wt_T_bi (wq_st_clearPages n hn 39 σ120) (fun r121 h122 => ?_)
          have f123 := h122
          obtain ⟨σ124, eσ124⟩ : ∃ z : wt_St, z = wt_sf r121 0 14 (0 : Int32) := ⟨_, rfl⟩
          rw [← eσ124]
          have fσ124 := wt_fr_sf eσ124
          have vσ124 := wt_ceq (wt_v_sf eσ124)
          refine wt_T_some ?_
          have bb125 := wt_bd (wt_gf σ124 1 2)
          have tt126 : (wt_gf σ124 1 2).toInt = (wt_gf r121 1 2).toInt := congrArg Int32.toInt (fσ124.1 1 2 (by (try dsimp only); omega))
          have bb127 := wt_bd (wt_gf r121 1 2)
          have tt128 : (wt_gf r121 1 2).toInt = (wt_gf σ120 1 2).toInt := congrArg Int32.toInt (f123.1 1 2 (fun z => z))
          have bb129 := wt_bd (wt_gf σ120 1 2)
          have tt130 : (wt_gf σ120 1 2).toInt = (wt_gf σ119 1 2).toInt := congrArg Int32.toInt (fσ120.1 1 2 (by (try dsimp only); omega))
          have bb131 := wt_bd (wt_gf σ119 1 2)
          have tt132 : (wt_gf σ119 1 2).toInt = (wt_gf r116 1 2).toInt := congrArg Int32.toInt (fσ119.1 1 2 (by (try dsimp only); omega))
          have bb133 := wt_bd (wt_gf r116 1 2)
          have tt134 : (wt_gf r116 1 2).toInt = (wt_gf r106.2 1 2).toInt := congrArg Int32.toInt (f118.1 1 2 (by (try dsimp only); omega))
          have bb135 := wt_bd (wt_gf r106.2 1 2)
          have tt136 : (wt_gf r106.2 1 2).toInt = (wt_gf r102 1 2).toInt := congrArg Int32.toInt (f108.1 1 2 (by (try dsimp only); omega))
          have bb137 := wt_bd (wt_gf r102 1 2)
          exact ⟨(wt_fr.tr (wt_fr.tr (wt_fr.tr (wt_fr.tr (wt_fr.tr (wt_fr.tr (wt_fr.tr wt_fr.rf f104 (fun i k h => by (try dsimp only at h); rcases h with h | h | h | h | h | h; exact Or.inl (by first | exact h | omega); exact Or.inr (Or.inl (by first | exact h | omega)); exact Or.inr (Or.inr (Or.inl (by first | exact h | omega))); exact Or.inr (Or.inr (Or.inr (Or.inl (by first | exact h | omega)))); exact Or.inr (Or.inr (Or.inr (Or.inr (Or.inl (by first | exact h | omega))))); exact Or.inr (Or.inr (Or.inr (Or.inr (Or.inr (Or.inl (by first | exact h | omega))))))) (fun i h => h.elim)) f108 (fun i k h => by (try dsimp only at h); rcases h with h | h | h | h | h | h; exact Or.inr (Or.inr (Or.inr (Or.inr (Or.inr (Or.inr (Or.inl (by first | exact h | omega))))))); exact Or.inr (Or.inr (Or.inr (Or.inr (Or.inr (Or.inr (Or.inr (Or.inl (by first | exact h | omega)))))))); exact Or.inr (Or.inr (Or.inr (Or.inl (by first | exact h | omega)))); exact Or.inr (Or.inr (Or.inl (by first | exact h | omega))); exact Or.inr (Or.inr (Or.inr (Or.inr (Or.inl (by first | exact h | omega))))); exact Or.inr (Or.inr (Or.inr (Or.inr (Or.inr (Or.inl (by first | exact h | omega))))))) (fun i h => by (try dsimp only at h); rcases h with h | h | h | h | h | h | h; exact Or.inl (by first | exact h | omega); exact Or.inr (Or.inl (by first | exact h | omega)); exact Or.inr (Or.inr (Or.inl (by first | exact h | omega))); exact Or.inr (Or.inr (Or.inr (Or.inl (by first | exact h | omega)))); exact Or.inr (Or.inr (Or.inr (Or.inr (Or.inl (by first | exact h | omega))))); exact Or.inr (Or.inr (Or.inr (Or.inr (Or.inr (Or.inl (by first | exact h | omega)))))); exact Or.inr (Or.inr (Or.inr (Or.inr (Or.inr (Or.inr (Or.inl (by first | exact h | omega))))))))) f118 (fun i k h => by (try dsimp only at h); rcases h with h | h; exact Or.inr (Or.inr (Or.inr (Or.inr (Or.inr (Or.inr (Or.inr (Or.inr (Or.inl (by first | exact h | omega))))))))); exact Or.inr (Or.inr (Or.inr (Or.inr (Or.inr (Or.inr (Or.inr (Or.inr (Or.inr (Or.inl (by first | exact h | omega))))))))))) (fun i h => by (try dsimp only at h); rcases h with h | h | h | h | h | h; exact Or.inr (Or.inr (Or.inr (Or.inr (Or.inr (Or.inr (Or.inr (Or.inl (by first | exact h | omega)))))))); exact Or.inr (Or.inr (Or.inr (Or.inr (Or.inr (Or.inr (Or.inr (Or.inr (Or.inl (by first | exact h | omega))))))))); exact Or.inr (Or.inr (Or.inr (Or.inr (Or.inr (Or.inr (Or.inr (Or.inr (Or.inr (Or.inl (by first | exact h | omega)))))))))); exact Or.inr (Or.inr (Or.inr (Or.inr (Or.inr (Or.inr (Or.inr (Or.inr (Or.inr (Or.inr (Or.inl (by first | exact h | omega))))))))))); exact Or.inr (Or.inr (Or.inr (Or.inr (Or.inr (Or.inr (Or.inr (Or.inr (Or.inr (Or.inr (Or.inr (Or.inl (by first | exact h | omega)))))))))))); exact Or.inr (Or.inr (Or.inr (Or.inr (Or.inr (Or.inr (Or.inr (Or.inr (Or.inr (Or.inr (Or.inr (Or.inr (Or.inl (by first | exact h | omega))))))))))))))) fσ119 (fun i k h => by (try dsimp only at h); exact Or.inr (Or.inr (Or.inr (Or.inr (Or.inr (Or.inr (Or.inr (Or.inr (Or.inr (Or.inr (Or.inl (by first | exact h | omega)))))))))))) (fun i h => h.elim)) fσ120 (fun i k h => by (try dsimp only at h); exact Or.inr (Or.inr (Or.inr (Or.inr (Or.inr (Or.inr (Or.inr (Or.inr (Or.inr (Or.inr (Or.inr (Or.inl (by first | exact h | omega))))))))))))) (fun i h => h.elim)) f123 (fun i k h => h.elim) (fun i h => by (try dsimp only at h); rcases h with h | h; exact Or.inr (Or.inr (Or.inr (Or.inr (Or.inr (Or.inr (Or.inr (Or.inr (Or.inr (Or.inr (Or.inr (Or.inr (Or.inr (Or.inl (by first | exact h | omega)))))))))))))); exact Or.inr (Or.inr (Or.inr (Or.inr (Or.inr (Or.inr (Or.inr (Or.inr (Or.inr (Or.inr (Or.inr (Or.inr (Or.inr (Or.inr (by first | exact h | omega)))))))))))))))) fσ124 (fun i k h => by (try dsimp only at h); exact Or.inr (Or.inr (Or.inr (Or.inr (Or.inr (Or.inr (Or.inr (Or.inr (Or.inr (Or.inr (Or.inr (Or.inr (by first | exact h | omega))))))))))))) (fun i h => h.elim)), Or.inl rfl, (show (x1.toInt < 0 ∨ (wt_gf σ 1 2).toInt < x1.toInt → (wt_gf σ124 1 2).toInt = (wt_gf σ 1 2).toInt) ∧ (0 ≤ x1.toInt ∧ x1.toInt ≤ (wt_gf σ 1 2).toInt → (wt_gf σ124 1 2).toInt = 0) by omega)⟩
      · skip
        refine wt_T_some ?_
        exact ⟨wt_fr.rf, (by (try dsimp only); omega), (show (x1.toInt < 0 ∨ (wt_gf σ 1 2).toInt < x1.toInt → (wt_gf σ 1 2).toInt = (wt_gf σ 1 2).toInt) ∧ (0 ≤ x1.toInt ∧ x1.toInt ≤ (wt_gf σ 1 2).toInt → (wt_gf σ 1 2).toInt = 0) by omega)⟩
set_option maxRecDepth 100000 in
set_option maxHeartbeats 4000000 in
theorem wq_ap_want (n : Nat) (hn : 4294967297 < n) (x1 : Int32) (x2 : Int32) (x3 : Int32) (x4 : Int32) (σ : wt_St) : wt_T (wp_ap_want n x1 x2 x3 x4 σ) (fun q => wt_fr (fun i k => (i = 39 ∧ k = 8)) (fun i => i = 44 ∨ i = 45 ∨ i = 46 ∨ i = 47) σ q.2.2 ∧ (q.1 = 0 ∨ q.1 = 1 ∨ q.1 = 2)) := by
  unfold wp_ap_want
  refine wt_T_bi (wq_tx_has n hn x1 σ) (fun r1 h2 => ?_)
  have e3 := h2
  rw [e3]
  have bb4 := wt_bd r1.1
  have k5 : (0 : Int32).toInt = 0 := by decide
  refine wt_T_if (fun h6 => ?_) (fun h6 => ?_)
  · skip
    have c7 := wt_ceq h6
    unfold wp_ap_want_B16
    refine wt_T_bi (wq_ap_miss n hn (1 : Int32) σ) (fun r8 h9 => ?_)
    obtain ⟨e10, xx11⟩ := h9
    rw [e10]
    refine wt_T_if (fun h12 => ?_) (fun h12 => ?_)
    · skip
      refine wt_T_bi (wq_ap_refuseCopies n hn x2 σ) (fun r13 h14 => ?_)
      obtain ⟨e15, xx16⟩ := h14
      rw [e15]
      refine wt_T_if (fun h17 => ?_) (fun h17 => ?_)
      · skip
        have bb18 := wt_bd x3
        refine wt_T_if (fun h19 => ?_) (fun h19 => ?_)
        · skip
          have c20 := wt_clt h19
          unfold wp_ap_want_B33
          unfold wp_ap_want_B38
          refine wt_T_bi (wq_ap_refuse n hn (1 : Int32) σ) (fun r21 h22 => ?_)
          obtain ⟨e23, pp24⟩ := h22
          rw [e23]
          refine wt_T_if (fun h25 => ?_) (fun h25 => ?_)
          · skip
            have bb26 := wt_bd x4
            have k27 : (1 : Int32).toInt = 1 := by decide
            refine wt_T_if (fun h28 => ?_) (fun h28 => ?_)
            · skip
              have c29 := wt_clt h28
              unfold wp_ap_want_B55
              unfold wp_ap_want_B60
              refine wt_T_bi (wq_ap_refuse n hn (1 : Int32) σ) (fun r30 h31 => ?_)
              obtain ⟨e32, pp33⟩ := h31
              rw [e32]
              refine wt_T_if (fun h34 => ?_) (fun h34 => ?_)
              · skip
                have bb35 := wt_bd (wt_gf σ 39 8)
                have k36 : (10 : Int32).toInt = 10 := by decide
                refine wt_T_if (fun h37 => ?_) (fun h37 => ?_)
                · skip
                  have c38 := wt_clt h37
                  refine wt_T_bi (wq_st_addWanted n hn 39 x1 x2 x3 x4 σ) (fun r39 h40 => ?_)
                  have f41 := h40
                  refine wt_T_some ?_
                  exact ⟨(wt_fr.tr wt_fr.rf f41 (fun i k h => by (try dsimp only at h); exact (by first | exact h | omega)) (fun i h => by (try dsimp only at h); rcases h with h | h | h | h; exact Or.inl (by first | exact h | omega); exact Or.inr (Or.inl (by first | exact h | omega)); exact Or.inr (Or.inr (Or.inl (by first | exact h | omega))); exact Or.inr (Or.inr (Or.inr (by first | exact h | omega))))), Or.inl rfl⟩
                · skip
                  have c42 := wt_ncl h37
                  refine wt_T_some ?_
                  exact ⟨wt_fr.rf, Or.inl rfl⟩
              · skip
                refine wt_T_some ?_
                exact ⟨wt_fr.rf, (by (try dsimp only); omega)⟩
            · skip
              have c43 := wt_ncl h28
              have k44 : (999 : Int32).toInt = 999 := by decide
              refine wt_T_if (fun h45 => ?_) (fun h45 => ?_)
              · skip
                have c46 := wt_cle h45
                unfold wp_ap_want_B60
                refine wt_T_bi (wq_ap_refuse n hn (0 : Int32) σ) (fun r47 h48 => ?_)
                obtain ⟨e49, pp50⟩ := h48
                rw [e49]
                refine wt_T_if (fun h51 => ?_) (fun h51 => ?_)
                · skip
                  have bb52 := wt_bd (wt_gf σ 39 8)
                  have k53 : (10 : Int32).toInt = 10 := by decide
                  refine wt_T_if (fun h54 => ?_) (fun h54 => ?_)
                  · skip
                    have c55 := wt_clt h54
                    refine wt_T_bi (wq_st_addWanted n hn 39 x1 x2 x3 x4 σ) (fun r56 h57 => ?_)
                    have f58 := h57
                    refine wt_T_some ?_
                    exact ⟨(wt_fr.tr wt_fr.rf f58 (fun i k h => by (try dsimp only at h); exact (by first | exact h | omega)) (fun i h => by (try dsimp only at h); rcases h with h | h | h | h; exact Or.inl (by first | exact h | omega); exact Or.inr (Or.inl (by first | exact h | omega)); exact Or.inr (Or.inr (Or.inl (by first | exact h | omega))); exact Or.inr (Or.inr (Or.inr (by first | exact h | omega))))), Or.inl rfl⟩
                  · skip
                    have c59 := wt_ncl h54
                    refine wt_T_some ?_
                    exact ⟨wt_fr.rf, Or.inl rfl⟩
                · skip
                  refine wt_T_some ?_
                  exact ⟨wt_fr.rf, (by (try dsimp only); omega)⟩
              · skip
                have c60 := wt_ncle h45
                unfold wp_ap_want_B55
                unfold wp_ap_want_B60
                refine wt_T_bi (wq_ap_refuse n hn (1 : Int32) σ) (fun r61 h62 => ?_)
                obtain ⟨e63, pp64⟩ := h62
                rw [e63]
                refine wt_T_if (fun h65 => ?_) (fun h65 => ?_)
                · skip
                  have bb66 := wt_bd (wt_gf σ 39 8)
                  have k67 : (10 : Int32).toInt = 10 := by decide
                  refine wt_T_if (fun h68 => ?_) (fun h68 => ?_)
                  · skip
                    have c69 := wt_clt h68
                    refine wt_T_bi (wq_st_addWanted n hn 39 x1 x2 x3 x4 σ) (fun r70 h71 => ?_)
                    have f72 := h71
                    refine wt_T_some ?_
                    exact ⟨(wt_fr.tr wt_fr.rf f72 (fun i k h => by (try dsimp only at h); exact (by first | exact h | omega)) (fun i h => by (try dsimp only at h); rcases h with h | h | h | h; exact Or.inl (by first | exact h | omega); exact Or.inr (Or.inl (by first | exact h | omega)); exact Or.inr (Or.inr (Or.inl (by first | exact h | omega))); exact Or.inr (Or.inr (Or.inr (by first | exact h | omega))))), Or.inl rfl⟩
                  · skip
                    have c73 := wt_ncl h68
                    refine wt_T_some ?_
                    exact ⟨wt_fr.rf, Or.inl rfl⟩
                · skip
                  refine wt_T_some ?_
                  exact ⟨wt_fr.rf, (by (try dsimp only); omega)⟩
          · skip
            refine wt_T_some ?_
            exact ⟨wt_fr.rf, (by (try dsimp only); omega)⟩
        · skip
          have c74 := wt_ncl h19
          have k75 : (100 : Int32).toInt = 100 := by decide
          refine wt_T_if (fun h76 => ?_) (fun h76 => ?_)
          · skip
            have c77 := wt_clt h76
            unfold wp_ap_want_B38
            refine wt_T_bi (wq_ap_refuse n hn (0 : Int32) σ) (fun r78 h79 => ?_)
            obtain ⟨e80, pp81⟩ := h79
            rw [e80]
            refine wt_T_if (fun h82 => ?_) (fun h82 => ?_)
            · skip
              have bb83 := wt_bd x4
              have k84 : (1 : Int32).toInt = 1 := by decide
              refine wt_T_if (fun h85 => ?_) (fun h85 => ?_)
              · skip
                have c86 := wt_clt h85
                unfold wp_ap_want_B55
                unfold wp_ap_want_B60
                refine wt_T_bi (wq_ap_refuse n hn (1 : Int32) σ) (fun r87 h88 => ?_)
                obtain ⟨e89, pp90⟩ := h88
                rw [e89]
                refine wt_T_if (fun h91 => ?_) (fun h91 => ?_)
                · skip
                  have bb92 := wt_bd (wt_gf σ 39 8)
                  have k93 : (10 : Int32).toInt = 10 := by decide
                  refine wt_T_if (fun h94 => ?_) (fun h94 => ?_)
                  · skip
                    have c95 := wt_clt h94
                    refine wt_T_bi (wq_st_addWanted n hn 39 x1 x2 x3 x4 σ) (fun r96 h97 => ?_)
                    have f98 := h97
                    refine wt_T_some ?_
                    exact ⟨(wt_fr.tr wt_fr.rf f98 (fun i k h => by (try dsimp only at h); exact (by first | exact h | omega)) (fun i h => by (try dsimp only at h); rcases h with h | h | h | h; exact Or.inl (by first | exact h | omega); exact Or.inr (Or.inl (by first | exact h | omega)); exact Or.inr (Or.inr (Or.inl (by first | exact h | omega))); exact Or.inr (Or.inr (Or.inr (by first | exact h | omega))))), Or.inl rfl⟩
                  · skip
                    have c99 := wt_ncl h94
                    refine wt_T_some ?_
                    exact ⟨wt_fr.rf, Or.inl rfl⟩
                · skip
                  refine wt_T_some ?_
                  exact ⟨wt_fr.rf, (by (try dsimp only); omega)⟩
              · skip
                have c100 := wt_ncl h85
                have k101 : (999 : Int32).toInt = 999 := by decide
                refine wt_T_if (fun h102 => ?_) (fun h102 => ?_)
                · skip
                  have c103 := wt_cle h102
                  unfold wp_ap_want_B60
                  refine wt_T_bi (wq_ap_refuse n hn (0 : Int32) σ) (fun r104 h105 => ?_)
                  obtain ⟨e106, pp107⟩ := h105
                  rw [e106]
                  refine wt_T_if (fun h108 => ?_) (fun h108 => ?_)
                  · skip
                    have bb109 := wt_bd (wt_gf σ 39 8)
                    have k110 : (10 : Int32).toInt = 10 := by decide
                    refine wt_T_if (fun h111 => ?_) (fun h111 => ?_)
                    · skip
                      have c112 := wt_clt h111
                      refine wt_T_bi (wq_st_addWanted n hn 39 x1 x2 x3 x4 σ) (fun r113 h114 => ?_)
                      have f115 := h114
                      refine wt_T_some ?_
                      exact ⟨(wt_fr.tr wt_fr.rf f115 (fun i k h => by (try dsimp only at h); exact (by first | exact h | omega)) (fun i h => by (try dsimp only at h); rcases h with h | h | h | h; exact Or.inl (by first | exact h | omega); exact Or.inr (Or.inl (by first | exact h | omega)); exact Or.inr (Or.inr (Or.inl (by first | exact h | omega))); exact Or.inr (Or.inr (Or.inr (by first | exact h | omega))))), Or.inl rfl⟩
                    · skip
                      have c116 := wt_ncl h111
                      refine wt_T_some ?_
                      exact ⟨wt_fr.rf, Or.inl rfl⟩
                  · skip
                    refine wt_T_some ?_
                    exact ⟨wt_fr.rf, (by (try dsimp only); omega)⟩
                · skip
                  have c117 := wt_ncle h102
                  unfold wp_ap_want_B55
                  unfold wp_ap_want_B60
                  refine wt_T_bi (wq_ap_refuse n hn (1 : Int32) σ) (fun r118 h119 => ?_)
                  obtain ⟨e120, pp121⟩ := h119
                  rw [e120]
                  refine wt_T_if (fun h122 => ?_) (fun h122 => ?_)
                  · skip
                    have bb123 := wt_bd (wt_gf σ 39 8)
                    have k124 : (10 : Int32).toInt = 10 := by decide
                    refine wt_T_if (fun h125 => ?_) (fun h125 => ?_)
                    · skip
                      have c126 := wt_clt h125
                      refine wt_T_bi (wq_st_addWanted n hn 39 x1 x2 x3 x4 σ) (fun r127 h128 => ?_)
                      have f129 := h128
                      refine wt_T_some ?_
                      exact ⟨(wt_fr.tr wt_fr.rf f129 (fun i k h => by (try dsimp only at h); exact (by first | exact h | omega)) (fun i h => by (try dsimp only at h); rcases h with h | h | h | h; exact Or.inl (by first | exact h | omega); exact Or.inr (Or.inl (by first | exact h | omega)); exact Or.inr (Or.inr (Or.inl (by first | exact h | omega))); exact Or.inr (Or.inr (Or.inr (by first | exact h | omega))))), Or.inl rfl⟩
                    · skip
                      have c130 := wt_ncl h125
                      refine wt_T_some ?_
                      exact ⟨wt_fr.rf, Or.inl rfl⟩
                  · skip
                    refine wt_T_some ?_
                    exact ⟨wt_fr.rf, (by (try dsimp only); omega)⟩
            · skip
              refine wt_T_some ?_
              exact ⟨wt_fr.rf, (by (try dsimp only); omega)⟩
          · skip
            have c131 := wt_ncl h76
            unfold wp_ap_want_B33
            unfold wp_ap_want_B38
            refine wt_T_bi (wq_ap_refuse n hn (1 : Int32) σ) (fun r132 h133 => ?_)
            obtain ⟨e134, pp135⟩ := h133
            rw [e134]
            refine wt_T_if (fun h136 => ?_) (fun h136 => ?_)
            · skip
              have bb137 := wt_bd x4
              have k138 : (1 : Int32).toInt = 1 := by decide
              refine wt_T_if (fun h139 => ?_) (fun h139 => ?_)
              · skip
                have c140 := wt_clt h139
                unfold wp_ap_want_B55
                unfold wp_ap_want_B60
                refine wt_T_bi (wq_ap_refuse n hn (1 : Int32) σ) (fun r141 h142 => ?_)
                obtain ⟨e143, pp144⟩ := h142
                rw [e143]
                refine wt_T_if (fun h145 => ?_) (fun h145 => ?_)
                · skip
                  have bb146 := wt_bd (wt_gf σ 39 8)
                  have k147 : (10 : Int32).toInt = 10 := by decide
                  refine wt_T_if (fun h148 => ?_) (fun h148 => ?_)
                  · skip
                    have c149 := wt_clt h148
                    refine wt_T_bi (wq_st_addWanted n hn 39 x1 x2 x3 x4 σ) (fun r150 h151 => ?_)
                    have f152 := h151
                    refine wt_T_some ?_
                    exact ⟨(wt_fr.tr wt_fr.rf f152 (fun i k h => by (try dsimp only at h); exact (by first | exact h | omega)) (fun i h => by (try dsimp only at h); rcases h with h | h | h | h; exact Or.inl (by first | exact h | omega); exact Or.inr (Or.inl (by first | exact h | omega)); exact Or.inr (Or.inr (Or.inl (by first | exact h | omega))); exact Or.inr (Or.inr (Or.inr (by first | exact h | omega))))), Or.inl rfl⟩
                  · skip
                    have c153 := wt_ncl h148
                    refine wt_T_some ?_
                    exact ⟨wt_fr.rf, Or.inl rfl⟩
                · skip
                  refine wt_T_some ?_
                  exact ⟨wt_fr.rf, (by (try dsimp only); omega)⟩
              · skip
                have c154 := wt_ncl h139
                have k155 : (999 : Int32).toInt = 999 := by decide
                refine wt_T_if (fun h156 => ?_) (fun h156 => ?_)
                · skip
                  have c157 := wt_cle h156
                  unfold wp_ap_want_B60
                  refine wt_T_bi (wq_ap_refuse n hn (0 : Int32) σ) (fun r158 h159 => ?_)
                  obtain ⟨e160, pp161⟩ := h159
                  rw [e160]
                  refine wt_T_if (fun h162 => ?_) (fun h162 => ?_)
                  · skip
                    have bb163 := wt_bd (wt_gf σ 39 8)
                    have k164 : (10 : Int32).toInt = 10 := by decide
                    refine wt_T_if (fun h165 => ?_) (fun h165 => ?_)
                    · skip
                      have c166 := wt_clt h165
                      refine wt_T_bi (wq_st_addWanted n hn 39 x1 x2 x3 x4 σ) (fun r167 h168 => ?_)
                      have f169 := h168
                      refine wt_T_some ?_
                      exact ⟨(wt_fr.tr wt_fr.rf f169 (fun i k h => by (try dsimp only at h); exact (by first | exact h | omega)) (fun i h => by (try dsimp only at h); rcases h with h | h | h | h; exact Or.inl (by first | exact h | omega); exact Or.inr (Or.inl (by first | exact h | omega)); exact Or.inr (Or.inr (Or.inl (by first | exact h | omega))); exact Or.inr (Or.inr (Or.inr (by first | exact h | omega))))), Or.inl rfl⟩
                    · skip
                      have c170 := wt_ncl h165
                      refine wt_T_some ?_
                      exact ⟨wt_fr.rf, Or.inl rfl⟩
                  · skip
                    refine wt_T_some ?_
                    exact ⟨wt_fr.rf, (by (try dsimp only); omega)⟩
                · skip
                  have c171 := wt_ncle h156
                  unfold wp_ap_want_B55
                  unfold wp_ap_want_B60
                  refine wt_T_bi (wq_ap_refuse n hn (1 : Int32) σ) (fun r172 h173 => ?_)
                  obtain ⟨e174, pp175⟩ := h173
                  rw [e174]
                  refine wt_T_if (fun h176 => ?_) (fun h176 => ?_)
                  · skip
                    have bb177 := wt_bd (wt_gf σ 39 8)
                    have k178 : (10 : Int32).toInt = 10 := by decide
                    refine wt_T_if (fun h179 => ?_) (fun h179 => ?_)
                    · skip
                      have c180 := wt_clt h179
                      refine wt_T_bi (wq_st_addWanted n hn 39 x1 x2 x3 x4 σ) (fun r181 h182 => ?_)
                      have f183 := h182
                      refine wt_T_some ?_
                      exact ⟨(wt_fr.tr wt_fr.rf f183 (fun i k h => by (try dsimp only at h); exact (by first | exact h | omega)) (fun i h => by (try dsimp only at h); rcases h with h | h | h | h; exact Or.inl (by first | exact h | omega); exact Or.inr (Or.inl (by first | exact h | omega)); exact Or.inr (Or.inr (Or.inl (by first | exact h | omega))); exact Or.inr (Or.inr (Or.inr (by first | exact h | omega))))), Or.inl rfl⟩
                    · skip
                      have c184 := wt_ncl h179
                      refine wt_T_some ?_
                      exact ⟨wt_fr.rf, Or.inl rfl⟩
                  · skip
                    refine wt_T_some ?_
                    exact ⟨wt_fr.rf, (by (try dsimp only); omega)⟩
            · skip
              refine wt_T_some ?_
              exact ⟨wt_fr.rf, (by (try dsimp only); omega)⟩
      · skip
        refine wt_T_some ?_
        exact ⟨wt_fr.rf, (by (try dsimp only); omega)⟩
    · skip
      refine wt_T_some ?_
      exact ⟨wt_fr.rf, (by (try dsimp only); omega)⟩
  · skip
    have c185 := wt_nceq h6
    unfold wp_ap_want_B16
    refine wt_T_bi (wq_ap_miss n hn (0 : Int32) σ) (fun r186 h187 => ?_)
    obtain ⟨e188, xx189⟩ := h187
    rw [e188]
    refine wt_T_if (fun h190 => ?_) (fun h190 => ?_)
    · skip
      refine wt_T_bi (wq_ap_refuseCopies n hn x2 σ) (fun r191 h192 => ?_)
      obtain ⟨e193, xx194⟩ := h192
      rw [e193]
      refine wt_T_if (fun h195 => ?_) (fun h195 => ?_)
      · skip
        have bb196 := wt_bd x3
        refine wt_T_if (fun h197 => ?_) (fun h197 => ?_)
        · skip
          have c198 := wt_clt h197
          unfold wp_ap_want_B33
          unfold wp_ap_want_B38
          refine wt_T_bi (wq_ap_refuse n hn (1 : Int32) σ) (fun r199 h200 => ?_)
          obtain ⟨e201, pp202⟩ := h200
          rw [e201]
          refine wt_T_if (fun h203 => ?_) (fun h203 => ?_)
          · skip
            have bb204 := wt_bd x4
            have k205 : (1 : Int32).toInt = 1 := by decide
            refine wt_T_if (fun h206 => ?_) (fun h206 => ?_)
            · skip
              have c207 := wt_clt h206
              unfold wp_ap_want_B55
              unfold wp_ap_want_B60
              refine wt_T_bi (wq_ap_refuse n hn (1 : Int32) σ) (fun r208 h209 => ?_)
              obtain ⟨e210, pp211⟩ := h209
              rw [e210]
              refine wt_T_if (fun h212 => ?_) (fun h212 => ?_)
              · skip
                have bb213 := wt_bd (wt_gf σ 39 8)
                have k214 : (10 : Int32).toInt = 10 := by decide
                refine wt_T_if (fun h215 => ?_) (fun h215 => ?_)
                · skip
                  have c216 := wt_clt h215
                  refine wt_T_bi (wq_st_addWanted n hn 39 x1 x2 x3 x4 σ) (fun r217 h218 => ?_)
                  have f219 := h218
                  refine wt_T_some ?_
                  exact ⟨(wt_fr.tr wt_fr.rf f219 (fun i k h => by (try dsimp only at h); exact (by first | exact h | omega)) (fun i h => by (try dsimp only at h); rcases h with h | h | h | h; exact Or.inl (by first | exact h | omega); exact Or.inr (Or.inl (by first | exact h | omega)); exact Or.inr (Or.inr (Or.inl (by first | exact h | omega))); exact Or.inr (Or.inr (Or.inr (by first | exact h | omega))))), Or.inl rfl⟩
                · skip
                  have c220 := wt_ncl h215
                  refine wt_T_some ?_
                  exact ⟨wt_fr.rf, Or.inl rfl⟩
              · skip
                refine wt_T_some ?_
                exact ⟨wt_fr.rf, (by (try dsimp only); omega)⟩
            · skip
              have c221 := wt_ncl h206
              have k222 : (999 : Int32).toInt = 999 := by decide
              refine wt_T_if (fun h223 => ?_) (fun h223 => ?_)
              · skip
                have c224 := wt_cle h223
                unfold wp_ap_want_B60
                refine wt_T_bi (wq_ap_refuse n hn (0 : Int32) σ) (fun r225 h226 => ?_)
                obtain ⟨e227, pp228⟩ := h226
                rw [e227]
                refine wt_T_if (fun h229 => ?_) (fun h229 => ?_)
                · skip
                  have bb230 := wt_bd (wt_gf σ 39 8)
                  have k231 : (10 : Int32).toInt = 10 := by decide
                  refine wt_T_if (fun h232 => ?_) (fun h232 => ?_)
                  · skip
                    have c233 := wt_clt h232
                    refine wt_T_bi (wq_st_addWanted n hn 39 x1 x2 x3 x4 σ) (fun r234 h235 => ?_)
                    have f236 := h235
                    refine wt_T_some ?_
                    exact ⟨(wt_fr.tr wt_fr.rf f236 (fun i k h => by (try dsimp only at h); exact (by first | exact h | omega)) (fun i h => by (try dsimp only at h); rcases h with h | h | h | h; exact Or.inl (by first | exact h | omega); exact Or.inr (Or.inl (by first | exact h | omega)); exact Or.inr (Or.inr (Or.inl (by first | exact h | omega))); exact Or.inr (Or.inr (Or.inr (by first | exact h | omega))))), Or.inl rfl⟩
                  · skip
                    have c237 := wt_ncl h232
                    refine wt_T_some ?_
                    exact ⟨wt_fr.rf, Or.inl rfl⟩
                · skip
                  refine wt_T_some ?_
                  exact ⟨wt_fr.rf, (by (try dsimp only); omega)⟩
              · skip
                have c238 := wt_ncle h223
                unfold wp_ap_want_B55
                unfold wp_ap_want_B60
                refine wt_T_bi (wq_ap_refuse n hn (1 : Int32) σ) (fun r239 h240 => ?_)
                obtain ⟨e241, pp242⟩ := h240
                rw [e241]
                refine wt_T_if (fun h243 => ?_) (fun h243 => ?_)
                · skip
                  have bb244 := wt_bd (wt_gf σ 39 8)
                  have k245 : (10 : Int32).toInt = 10 := by decide
                  refine wt_T_if (fun h246 => ?_) (fun h246 => ?_)
                  · skip
                    have c247 := wt_clt h246
                    refine wt_T_bi (wq_st_addWanted n hn 39 x1 x2 x3 x4 σ) (fun r248 h249 => ?_)
                    have f250 := h249
                    refine wt_T_some ?_
                    exact ⟨(wt_fr.tr wt_fr.rf f250 (fun i k h => by (try dsimp only at h); exact (by first | exact h | omega)) (fun i h => by (try dsimp only at h); rcases h with h | h | h | h; exact Or.inl (by first | exact h | omega); exact Or.inr (Or.inl (by first | exact h | omega)); exact Or.inr (Or.inr (Or.inl (by first | exact h | omega))); exact Or.inr (Or.inr (Or.inr (by first | exact h | omega))))), Or.inl rfl⟩
                  · skip
                    have c251 := wt_ncl h246
                    refine wt_T_some ?_
                    exact ⟨wt_fr.rf, Or.inl rfl⟩
                · skip
                  refine wt_T_some ?_
                  exact ⟨wt_fr.rf, (by (try dsimp only); omega)⟩
          · skip
            refine wt_T_some ?_
            exact ⟨wt_fr.rf, (by (try dsimp only); omega)⟩
        · skip
          have c252 := wt_ncl h197
          have k253 : (100 : Int32).toInt = 100 := by decide
          refine wt_T_if (fun h254 => ?_) (fun h254 => ?_)
          · skip
            have c255 := wt_clt h254
            unfold wp_ap_want_B38
            refine wt_T_bi (wq_ap_refuse n hn (0 : Int32) σ) (fun r256 h257 => ?_)
            obtain ⟨e258, pp259⟩ := h257
            rw [e258]
            refine wt_T_if (fun h260 => ?_) (fun h260 => ?_)
            · skip
              have bb261 := wt_bd x4
              have k262 : (1 : Int32).toInt = 1 := by decide
              refine wt_T_if (fun h263 => ?_) (fun h263 => ?_)
              · skip
                have c264 := wt_clt h263
                unfold wp_ap_want_B55
                unfold wp_ap_want_B60
                refine wt_T_bi (wq_ap_refuse n hn (1 : Int32) σ) (fun r265 h266 => ?_)
                obtain ⟨e267, pp268⟩ := h266
                rw [e267]
                refine wt_T_if (fun h269 => ?_) (fun h269 => ?_)
                · skip
                  have bb270 := wt_bd (wt_gf σ 39 8)
                  have k271 : (10 : Int32).toInt = 10 := by decide
                  refine wt_T_if (fun h272 => ?_) (fun h272 => ?_)
                  · skip
                    have c273 := wt_clt h272
                    refine wt_T_bi (wq_st_addWanted n hn 39 x1 x2 x3 x4 σ) (fun r274 h275 => ?_)
                    have f276 := h275
                    refine wt_T_some ?_
                    exact ⟨(wt_fr.tr wt_fr.rf f276 (fun i k h => by (try dsimp only at h); exact (by first | exact h | omega)) (fun i h => by (try dsimp only at h); rcases h with h | h | h | h; exact Or.inl (by first | exact h | omega); exact Or.inr (Or.inl (by first | exact h | omega)); exact Or.inr (Or.inr (Or.inl (by first | exact h | omega))); exact Or.inr (Or.inr (Or.inr (by first | exact h | omega))))), Or.inl rfl⟩
                  · skip
                    have c277 := wt_ncl h272
                    refine wt_T_some ?_
                    exact ⟨wt_fr.rf, Or.inl rfl⟩
                · skip
                  refine wt_T_some ?_
                  exact ⟨wt_fr.rf, (by (try dsimp only); omega)⟩
              · skip
                have c278 := wt_ncl h263
                have k279 : (999 : Int32).toInt = 999 := by decide
                refine wt_T_if (fun h280 => ?_) (fun h280 => ?_)
                · skip
                  have c281 := wt_cle h280
                  unfold wp_ap_want_B60
                  refine wt_T_bi (wq_ap_refuse n hn (0 : Int32) σ) (fun r282 h283 => ?_)
                  obtain ⟨e284, pp285⟩ := h283
                  rw [e284]
                  refine wt_T_if (fun h286 => ?_) (fun h286 => ?_)
                  · skip
                    have bb287 := wt_bd (wt_gf σ 39 8)
                    have k288 : (10 : Int32).toInt = 10 := by decide
                    refine wt_T_if (fun h289 => ?_) (fun h289 => ?_)
                    · skip
                      have c290 := wt_clt h289
                      refine wt_T_bi (wq_st_addWanted n hn 39 x1 x2 x3 x4 σ) (fun r291 h292 => ?_)
                      have f293 := h292
                      refine wt_T_some ?_
                      exact ⟨(wt_fr.tr wt_fr.rf f293 (fun i k h => by (try dsimp only at h); exact (by first | exact h | omega)) (fun i h => by (try dsimp only at h); rcases h with h | h | h | h; exact Or.inl (by first | exact h | omega); exact Or.inr (Or.inl (by first | exact h | omega)); exact Or.inr (Or.inr (Or.inl (by first | exact h | omega))); exact Or.inr (Or.inr (Or.inr (by first | exact h | omega))))), Or.inl rfl⟩
                    · skip
                      have c294 := wt_ncl h289
                      refine wt_T_some ?_
                      exact ⟨wt_fr.rf, Or.inl rfl⟩
                  · skip
                    refine wt_T_some ?_
                    exact ⟨wt_fr.rf, (by (try dsimp only); omega)⟩
                · skip
                  have c295 := wt_ncle h280
                  unfold wp_ap_want_B55
                  unfold wp_ap_want_B60
                  refine wt_T_bi (wq_ap_refuse n hn (1 : Int32) σ) (fun r296 h297 => ?_)
                  obtain ⟨e298, pp299⟩ := h297
                  rw [e298]
                  refine wt_T_if (fun h300 => ?_) (fun h300 => ?_)
                  · skip
                    have bb301 := wt_bd (wt_gf σ 39 8)
                    have k302 : (10 : Int32).toInt = 10 := by decide
                    refine wt_T_if (fun h303 => ?_) (fun h303 => ?_)
                    · skip
                      have c304 := wt_clt h303
                      refine wt_T_bi (wq_st_addWanted n hn 39 x1 x2 x3 x4 σ) (fun r305 h306 => ?_)
                      have f307 := h306
                      refine wt_T_some ?_
                      exact ⟨(wt_fr.tr wt_fr.rf f307 (fun i k h => by (try dsimp only at h); exact (by first | exact h | omega)) (fun i h => by (try dsimp only at h); rcases h with h | h | h | h; exact Or.inl (by first | exact h | omega); exact Or.inr (Or.inl (by first | exact h | omega)); exact Or.inr (Or.inr (Or.inl (by first | exact h | omega))); exact Or.inr (Or.inr (Or.inr (by first | exact h | omega))))), Or.inl rfl⟩
                    · skip
                      have c308 := wt_ncl h303
                      refine wt_T_some ?_
                      exact ⟨wt_fr.rf, Or.inl rfl⟩
                  · skip
                    refine wt_T_some ?_
                    exact ⟨wt_fr.rf, (by (try dsimp only); omega)⟩
            · skip
              refine wt_T_some ?_
              exact ⟨wt_fr.rf, (by (try dsimp only); omega)⟩
          · skip
            have c309 := wt_ncl h254
            unfold wp_ap_want_B33
            unfold wp_ap_want_B38
            refine wt_T_bi (wq_ap_refuse n hn (1 : Int32) σ) (fun r310 h311 => ?_)
            obtain ⟨e312, pp313⟩ := h311
            rw [e312]
            refine wt_T_if (fun h314 => ?_) (fun h314 => ?_)
            · skip
              have bb315 := wt_bd x4
              have k316 : (1 : Int32).toInt = 1 := by decide
              refine wt_T_if (fun h317 => ?_) (fun h317 => ?_)
              · skip
                have c318 := wt_clt h317
                unfold wp_ap_want_B55
                unfold wp_ap_want_B60
                refine wt_T_bi (wq_ap_refuse n hn (1 : Int32) σ) (fun r319 h320 => ?_)
                obtain ⟨e321, pp322⟩ := h320
                rw [e321]
                refine wt_T_if (fun h323 => ?_) (fun h323 => ?_)
                · skip
                  have bb324 := wt_bd (wt_gf σ 39 8)
                  have k325 : (10 : Int32).toInt = 10 := by decide
                  refine wt_T_if (fun h326 => ?_) (fun h326 => ?_)
                  · skip
                    have c327 := wt_clt h326
                    refine wt_T_bi (wq_st_addWanted n hn 39 x1 x2 x3 x4 σ) (fun r328 h329 => ?_)
                    have f330 := h329
                    refine wt_T_some ?_
                    exact ⟨(wt_fr.tr wt_fr.rf f330 (fun i k h => by (try dsimp only at h); exact (by first | exact h | omega)) (fun i h => by (try dsimp only at h); rcases h with h | h | h | h; exact Or.inl (by first | exact h | omega); exact Or.inr (Or.inl (by first | exact h | omega)); exact Or.inr (Or.inr (Or.inl (by first | exact h | omega))); exact Or.inr (Or.inr (Or.inr (by first | exact h | omega))))), Or.inl rfl⟩
                  · skip
                    have c331 := wt_ncl h326
                    refine wt_T_some ?_
                    exact ⟨wt_fr.rf, Or.inl rfl⟩
                · skip
                  refine wt_T_some ?_
                  exact ⟨wt_fr.rf, (by (try dsimp only); omega)⟩
              · skip
                have c332 := wt_ncl h317
                have k333 : (999 : Int32).toInt = 999 := by decide
                refine wt_T_if (fun h334 => ?_) (fun h334 => ?_)
                · skip
                  have c335 := wt_cle h334
                  unfold wp_ap_want_B60
                  refine wt_T_bi (wq_ap_refuse n hn (0 : Int32) σ) (fun r336 h337 => ?_)
                  obtain ⟨e338, pp339⟩ := h337
                  rw [e338]
                  refine wt_T_if (fun h340 => ?_) (fun h340 => ?_)
                  · skip
                    have bb341 := wt_bd (wt_gf σ 39 8)
                    have k342 : (10 : Int32).toInt = 10 := by decide
                    refine wt_T_if (fun h343 => ?_) (fun h343 => ?_)
                    · skip
                      have c344 := wt_clt h343
                      refine wt_T_bi (wq_st_addWanted n hn 39 x1 x2 x3 x4 σ) (fun r345 h346 => ?_)
                      have f347 := h346
                      refine wt_T_some ?_
                      exact ⟨(wt_fr.tr wt_fr.rf f347 (fun i k h => by (try dsimp only at h); exact (by first | exact h | omega)) (fun i h => by (try dsimp only at h); rcases h with h | h | h | h; exact Or.inl (by first | exact h | omega); exact Or.inr (Or.inl (by first | exact h | omega)); exact Or.inr (Or.inr (Or.inl (by first | exact h | omega))); exact Or.inr (Or.inr (Or.inr (by first | exact h | omega))))), Or.inl rfl⟩
                    · skip
                      have c348 := wt_ncl h343
                      refine wt_T_some ?_
                      exact ⟨wt_fr.rf, Or.inl rfl⟩
                  · skip
                    refine wt_T_some ?_
                    exact ⟨wt_fr.rf, (by (try dsimp only); omega)⟩
                · skip
                  have c349 := wt_ncle h334
                  unfold wp_ap_want_B55
                  unfold wp_ap_want_B60
                  refine wt_T_bi (wq_ap_refuse n hn (1 : Int32) σ) (fun r350 h351 => ?_)
                  obtain ⟨e352, pp353⟩ := h351
                  rw [e352]
                  refine wt_T_if (fun h354 => ?_) (fun h354 => ?_)
                  · skip
                    have bb355 := wt_bd (wt_gf σ 39 8)
                    have k356 : (10 : Int32).toInt = 10 := by decide
                    refine wt_T_if (fun h357 => ?_) (fun h357 => ?_)
                    · skip
                      have c358 := wt_clt h357
                      refine wt_T_bi (wq_st_addWanted n hn 39 x1 x2 x3 x4 σ) (fun r359 h360 => ?_)
                      have f361 := h360
                      refine wt_T_some ?_
                      exact ⟨(wt_fr.tr wt_fr.rf f361 (fun i k h => by (try dsimp only at h); exact (by first | exact h | omega)) (fun i h => by (try dsimp only at h); rcases h with h | h | h | h; exact Or.inl (by first | exact h | omega); exact Or.inr (Or.inl (by first | exact h | omega)); exact Or.inr (Or.inr (Or.inl (by first | exact h | omega))); exact Or.inr (Or.inr (Or.inr (by first | exact h | omega))))), Or.inl rfl⟩
                    · skip
                      have c362 := wt_ncl h357
                      refine wt_T_some ?_
                      exact ⟨wt_fr.rf, Or.inl rfl⟩
                  · skip
                    refine wt_T_some ?_
                    exact ⟨wt_fr.rf, (by (try dsimp only); omega)⟩
            · skip
              refine wt_T_some ?_
              exact ⟨wt_fr.rf, (by (try dsimp only); omega)⟩
      · skip
        refine wt_T_some ?_
        exact ⟨wt_fr.rf, (by (try dsimp only); omega)⟩
    · skip
      refine wt_T_some ?_
      exact ⟨wt_fr.rf, (by (try dsimp only); omega)⟩
set_option maxRecDepth 100000 in
set_option maxHeartbeats 4000000 in
theorem wq_ap_word (n : Nat) (hn : 4294967297 < n) (x1 : Int32) (x2 : Int32) (σ : wt_St) : wt_T (wp_ap_word n x1 x2 σ) (fun q => wt_fr (fun i k => False) (fun i => i = 107) σ q.2.2 ∧ (q.1 = 0 ∨ q.1 = 1 ∨ q.1 = 2)) := by
  unfold wp_ap_word
  refine wt_T_bi (wq_tg_has n hn 20 x1 σ) (fun r1 h2 => ?_)
  have e3 := h2
  rw [e3]
  have bb4 := wt_bd r1.1
  have k5 : (0 : Int32).toInt = 0 := by decide
  refine wt_T_if (fun h6 => ?_) (fun h6 => ?_)
  · skip
    have c7 := wt_ceq h6
    unfold wp_ap_word_B16
    refine wt_T_bi (wq_ap_miss n hn (1 : Int32) σ) (fun r8 h9 => ?_)
    obtain ⟨e10, xx11⟩ := h9
    rw [e10]
    refine wt_T_if (fun h12 => ?_) (fun h12 => ?_)
    · skip
      have bb13 := wt_bd x2
      refine wt_T_if (fun h14 => ?_) (fun h14 => ?_)
      · skip
        have c15 := wt_ceq h14
        refine wt_T_bi (wq_ap_look n hn 22 x1 σ) (fun r16 h17 => ?_)
        obtain ⟨e18, e18v⟩ := h17
        have e19 := wt_ceq e18v
        have bb20 := wt_bd (wt_lk 22 x1 σ)
        have bb21 := wt_bd r16.1
        rw [e18]
        refine wt_T_some ?_
        exact ⟨wt_fr.rf, Or.inl rfl⟩
      · skip
        have c22 := wt_nceq h14
        have k23 : (1 : Int32).toInt = 1 := by decide
        refine wt_T_if (fun h24 => ?_) (fun h24 => ?_)
        · skip
          have c25 := wt_ceq h24
          refine wt_T_bi (wq_ap_look n hn 23 x1 σ) (fun r26 h27 => ?_)
          obtain ⟨e28, e28v⟩ := h27
          have e29 := wt_ceq e28v
          have bb30 := wt_bd (wt_lk 23 x1 σ)
          have bb31 := wt_bd r26.1
          rw [e28]
          refine wt_T_some ?_
          exact ⟨wt_fr.rf, Or.inl rfl⟩
        · skip
          have c32 := wt_nceq h24
          have k33 : (2 : Int32).toInt = 2 := by decide
          refine wt_T_if (fun h34 => ?_) (fun h34 => ?_)
          · skip
            have c35 := wt_ceq h34
            refine wt_T_bi (wq_ap_look n hn 24 x1 σ) (fun r36 h37 => ?_)
            obtain ⟨e38, e38v⟩ := h37
            have e39 := wt_ceq e38v
            have bb40 := wt_bd (wt_lk 24 x1 σ)
            have bb41 := wt_bd r36.1
            rw [e38]
            refine wt_T_some ?_
            exact ⟨wt_fr.rf, Or.inl rfl⟩
          · skip
            have c42 := wt_nceq h34
            have k43 : (3 : Int32).toInt = 3 := by decide
            refine wt_T_if (fun h44 => ?_) (fun h44 => ?_)
            · skip
              have c45 := wt_ceq h44
              refine wt_T_bi (wq_rw_priceOf n hn x1 σ) (fun r46 h47 => ?_)
              have e48 := h47
              rw [e48]
              refine wt_T_some ?_
              exact ⟨wt_fr.rf, Or.inl rfl⟩
            · skip
              have c49 := wt_nceq h44
              have k50 : (4 : Int32).toInt = 4 := by decide
              refine wt_T_if (fun h51 => ?_) (fun h51 => ?_)
              · skip
                have c52 := wt_ceq h51
                refine wt_T_bi (wq_tg_spell n hn 20 107 x1 σ) (fun r53 h54 => ?_)
                have f55 := h54
                refine wt_T_bi (wq_sk_often n hn 107 40 r53) (fun r56 h57 => ?_)
                have e58 := h57
                rw [e58]
                refine wt_T_some ?_
                exact ⟨(wt_fr.tr wt_fr.rf f55 (fun i k h => h.elim) (fun i h => by (try dsimp only at h); exact (by first | exact h | omega))), Or.inl rfl⟩
              · skip
                have c59 := wt_nceq h51
                refine wt_T_some ?_
                exact ⟨wt_fr.rf, Or.inr (Or.inl rfl)⟩
    · skip
      refine wt_T_some ?_
      exact ⟨wt_fr.rf, (by (try dsimp only); omega)⟩
  · skip
    have c60 := wt_nceq h6
    unfold wp_ap_word_B16
    refine wt_T_bi (wq_ap_miss n hn (0 : Int32) σ) (fun r61 h62 => ?_)
    obtain ⟨e63, xx64⟩ := h62
    rw [e63]
    refine wt_T_if (fun h65 => ?_) (fun h65 => ?_)
    · skip
      have bb66 := wt_bd x2
      refine wt_T_if (fun h67 => ?_) (fun h67 => ?_)
      · skip
        have c68 := wt_ceq h67
        refine wt_T_bi (wq_ap_look n hn 22 x1 σ) (fun r69 h70 => ?_)
        obtain ⟨e71, e71v⟩ := h70
        have e72 := wt_ceq e71v
        have bb73 := wt_bd (wt_lk 22 x1 σ)
        have bb74 := wt_bd r69.1
        rw [e71]
        refine wt_T_some ?_
        exact ⟨wt_fr.rf, Or.inl rfl⟩
      · skip
        have c75 := wt_nceq h67
        have k76 : (1 : Int32).toInt = 1 := by decide
        refine wt_T_if (fun h77 => ?_) (fun h77 => ?_)
        · skip
          have c78 := wt_ceq h77
          refine wt_T_bi (wq_ap_look n hn 23 x1 σ) (fun r79 h80 => ?_)
          obtain ⟨e81, e81v⟩ := h80
          have e82 := wt_ceq e81v
          have bb83 := wt_bd (wt_lk 23 x1 σ)
          have bb84 := wt_bd r79.1
          rw [e81]
          refine wt_T_some ?_
          exact ⟨wt_fr.rf, Or.inl rfl⟩
        · skip
          have c85 := wt_nceq h77
          have k86 : (2 : Int32).toInt = 2 := by decide
          refine wt_T_if (fun h87 => ?_) (fun h87 => ?_)
          · skip
            have c88 := wt_ceq h87
            refine wt_T_bi (wq_ap_look n hn 24 x1 σ) (fun r89 h90 => ?_)
            obtain ⟨e91, e91v⟩ := h90
            have e92 := wt_ceq e91v
            have bb93 := wt_bd (wt_lk 24 x1 σ)
            have bb94 := wt_bd r89.1
            rw [e91]
            refine wt_T_some ?_
            exact ⟨wt_fr.rf, Or.inl rfl⟩
          · skip
            have c95 := wt_nceq h87
            have k96 : (3 : Int32).toInt = 3 := by decide
            refine wt_T_if (fun h97 => ?_) (fun h97 => ?_)
            · skip
              have c98 := wt_ceq h97
              refine wt_T_bi (wq_rw_priceOf n hn x1 σ) (fun r99 h100 => ?_)
              have e101 := h100
              rw [e101]
              refine wt_T_some ?_
              exact ⟨wt_fr.rf, Or.inl rfl⟩
            · skip
              have c102 := wt_nceq h97
              have k103 : (4 : Int32).toInt = 4 := by decide
              refine wt_T_if (fun h104 => ?_) (fun h104 => ?_)
              · skip
                have c105 := wt_ceq h104
                refine wt_T_bi (wq_tg_spell n hn 20 107 x1 σ) (fun r106 h107 => ?_)
                have f108 := h107
                refine wt_T_bi (wq_sk_often n hn 107 40 r106) (fun r109 h110 => ?_)
                have e111 := h110
                rw [e111]
                refine wt_T_some ?_
                exact ⟨(wt_fr.tr wt_fr.rf f108 (fun i k h => h.elim) (fun i h => by (try dsimp only at h); exact (by first | exact h | omega))), Or.inl rfl⟩
              · skip
                have c112 := wt_nceq h104
                refine wt_T_some ?_
                exact ⟨wt_fr.rf, Or.inr (Or.inl rfl)⟩
    · skip
      refine wt_T_some ?_
      exact ⟨wt_fr.rf, (by (try dsimp only); omega)⟩
set_option maxRecDepth 100000 in
set_option maxHeartbeats 4000000 in
theorem wq_ap_wordings (n : Nat) (hn : 4294967297 < n) (x1 : Int32) (σ : wt_St) : wt_T (wp_ap_wordings n x1 σ) (fun q => wt_fr (fun i k => False) (fun i => i = 82) σ q.2.2 ∧ (q.1 = 0 ∨ q.1 = 2)) := by
  unfold wp_ap_wordings
  refine wt_T_bi (wq_tx_has n hn x1 σ) (fun r1 h2 => ?_)
  have e3 := h2
  rw [e3]
  have bb4 := wt_bd r1.1
  have k5 : (0 : Int32).toInt = 0 := by decide
  refine wt_T_if (fun h6 => ?_) (fun h6 => ?_)
  · skip
    have c7 := wt_ceq h6
    unfold wp_ap_wordings_B16
    refine wt_T_bi (wq_ap_miss n hn (1 : Int32) σ) (fun r8 h9 => ?_)
    obtain ⟨e10, xx11⟩ := h9
    rw [e10]
    refine wt_T_if (fun h12 => ?_) (fun h12 => ?_)
    · skip
      refine wt_T_bi (wq_rw_howMany n hn x1 σ) (fun r13 h14 => ?_)
      have f15 := h14
      refine wt_T_some ?_
      exact ⟨(wt_fr.tr wt_fr.rf f15 (fun i k h => h.elim) (fun i h => by (try dsimp only at h); exact (by first | exact h | omega))), Or.inl rfl⟩
    · skip
      refine wt_T_some ?_
      exact ⟨wt_fr.rf, (by (try dsimp only); omega)⟩
  · skip
    have c16 := wt_nceq h6
    unfold wp_ap_wordings_B16
    refine wt_T_bi (wq_ap_miss n hn (0 : Int32) σ) (fun r17 h18 => ?_)
    obtain ⟨e19, xx20⟩ := h18
    rw [e19]
    refine wt_T_if (fun h21 => ?_) (fun h21 => ?_)
    · skip
      refine wt_T_bi (wq_rw_howMany n hn x1 σ) (fun r22 h23 => ?_)
      have f24 := h23
      refine wt_T_some ?_
      exact ⟨(wt_fr.tr wt_fr.rf f24 (fun i k h => h.elim) (fun i h => by (try dsimp only at h); exact (by first | exact h | omega))), Or.inl rfl⟩
    · skip
      refine wt_T_some ?_
      exact ⟨wt_fr.rf, (by (try dsimp only); omega)⟩
