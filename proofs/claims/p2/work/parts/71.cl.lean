theorem wq_ap_look (n : Nat) (hn : 4294967297 < n) (a0 : Nat) (x1 : Int32) (σ : wt_St) : wt_T (wp_ap_look n a0 x1 σ) (fun q => q.2 = σ ∧ q.1 = wt_lk a0 x1 σ) := by
  unfold wp_ap_look wt_lk
  refine wt_T_if (fun h => wt_T_some ⟨rfl, (if_pos h).symm⟩) (fun h => ?_)
  rw [if_neg h]
  refine wt_T_if (fun h2 => wt_T_some ⟨rfl, (if_pos h2).symm⟩) (fun h2 => ?_)
  rw [if_neg h2]
  have k0 : (0 : Int32).toInt = 0 := by decide
  have b1 := wt_ncl h
  have b2 := wt_ncle h2
  have b3 := wt_lnI a0
  exact wt_T_gd (wt_ix (by omega) (by omega)) (wt_T_some ⟨rfl, rfl⟩)
theorem wq_sk_pieces (n : Nat) (hn : 4294967297 < n) (x1 : Int32) (σ : wt_St) : wt_T (wp_sk_pieces n x1 σ) (fun q => q.2 = σ ∧ q.1 = wt_lk 5 x1 σ) := by
  unfold wp_sk_pieces
  exact wt_T_bi (wq_ap_look n hn _ _ _) (fun q h => wt_T_some h)
theorem wq_tx_lengthOf (n : Nat) (hn : 4294967297 < n) (x1 : Int32) (σ : wt_St) : wt_T (wp_tx_lengthOf n x1 σ) (fun q => q.2 = σ ∧ q.1 = wt_lk 36 x1 σ) := by
  unfold wp_tx_lengthOf
  exact wt_T_bi (wq_ap_look n hn _ _ _) (fun q h => wt_T_some h)
theorem wq_tg_membersLike (n : Nat) (hn : 4294967297 < n) (t0 : Nat) (x1 : Int32) (σ : wt_St) : wt_T (wp_tg_membersLike n t0 x1 σ) (fun q => q.2 = σ ∧ q.1 = wt_lk2 (t0 + 6) (t0 + 4) x1 σ) := by
  unfold wp_tg_membersLike
  refine wt_T_bi (wq_ap_look n hn _ _ _) (fun q h => ?_)
  rw [h.1, h.2]
  exact wt_T_bi (wq_ap_look n hn _ _ _) (fun q h => wt_T_some h)
set_option maxRecDepth 100000 in
set_option maxHeartbeats 4000000 in
theorem wq_pg_piecesOn (n : Nat) (hn : 4294967297 < n) (x1 : Int32) (σ : wt_St) : wt_T (wp_pg_piecesOn n x1 σ) (fun q => q.2 = σ) := by
  unfold wp_pg_piecesOn
  have k6 : (0 : Int32).toInt = 0 := by decide
  refine wt_T_it (fun s : Int32 × Int32 × wt_St => s.2.2 = σ ∧ 0 ≤ (s.2.1).toInt) (fun s : Int32 × Int32 × wt_St => ((312 : Int32).toInt - s.2.1.toInt + 0).toNat) (fun K1 s2 I3 hK1 => ?_) _ _ ?_ ?_
  · skip
    obtain ⟨l4, l5⟩ := I3
    unfold wp_pg_piecesOn_B4
    rw [l4]
    have k7 : (312 : Int32).toInt = 312 := by decide
    have b8 := wt_bd s2.2.1
    refine wt_T_if (fun h9 => ?_) (fun h9 => ?_)
    · skip
      have c10 := wt_cle h9
      refine wt_T_some ?_
      exact rfl
    · skip
      have c11 := wt_ncle h9
      have b12 := wt_bd n
      refine wt_T_bi (wq_ap_look n hn 41 s2.2.1 σ) (fun q13 h14 => ?_)
      obtain ⟨e15, e15v⟩ := h14
      have e16 := wt_ceq e15v
      have b17 := wt_bd (wt_lk 41 s2.2.1 σ)
      have b18 := wt_bd q13.1
      rw [e15]
      have b19 := wt_bd x1
      refine wt_T_if (fun h20 => ?_) (fun h20 => ?_)
      · skip
        have c21 := wt_ceq h20
        unfold wp_pg_piecesOn_B32
        have b22 := wt_bd s2.1
        have k23 : (1 : Int32).toInt = 1 := by decide
        obtain ⟨j24, j24a, j24b⟩ := wt_addI s2.1 (1 : Int32)
        obtain ⟨j25, j25a, j25b⟩ := wt_addI s2.2.1 (1 : Int32)
        refine hK1 _ ⟨rfl, (by (try dsimp only); omega)⟩ ?_
        (try dsimp only); omega
      · skip
        have c26 := wt_nceq h20
        unfold wp_pg_piecesOn_B32
        have b27 := wt_bd s2.1
        obtain ⟨j28, j28a, j28b⟩ := wt_addI s2.1 (0 : Int32)
        have k29 : (1 : Int32).toInt = 1 := by decide
        obtain ⟨j30, j30a, j30b⟩ := wt_addI s2.2.1 (1 : Int32)
        refine hK1 _ ⟨rfl, (by (try dsimp only); omega)⟩ ?_
        (try dsimp only); omega
  · skip
    have k31 : (312 : Int32).toInt = 312 := by decide
    exact ⟨rfl, (by (try dsimp only); omega)⟩
  · skip
    have k32 : (312 : Int32).toInt = 312 := by decide
    (try dsimp only); omega
set_option maxRecDepth 100000 in
set_option maxHeartbeats 4000000 in
theorem wq_pg_stands (n : Nat) (hn : 4294967297 < n) (x1 : Int32) (σ : wt_St) : wt_T (wp_pg_stands n x1 σ) (fun q => q.2 = σ) := by
  unfold wp_pg_stands
  have b1 := wt_bd x1
  have k2 : (0 : Int32).toInt = 0 := by decide
  refine wt_T_if (fun h3 => ?_) (fun h3 => ?_)
  · skip
    have c4 := wt_clt h3
    refine wt_T_some ?_
    exact rfl
  · skip
    have c5 := wt_ncl h3
    have k6 : (4 : Int32).toInt = 4 := by decide
    refine wt_T_if (fun h7 => ?_) (fun h7 => ?_)
    · skip
      have c8 := wt_cle h7
      refine wt_T_some ?_
      exact rfl
    · skip
      have c9 := wt_ncle h7
      have b10 := wt_bd n
      refine wt_T_bi (wq_ap_look n hn 43 x1 σ) (fun q11 h12 => ?_)
      obtain ⟨e13, e13v⟩ := h12
      have e14 := wt_ceq e13v
      have b15 := wt_bd (wt_lk 43 x1 σ)
      have b16 := wt_bd q11.1
      rw [e13]
      have k17 : (-1 : Int32).toInt = -1 := by decide
      refine wt_T_if (fun h18 => ?_) (fun h18 => ?_)
      · skip
        have c19 := wt_ceq h18
        refine wt_T_some ?_
        exact rfl
      · skip
        have c20 := wt_nceq h18
        refine wt_T_some ?_
        exact rfl
set_option maxRecDepth 100000 in
set_option maxHeartbeats 4000000 in
theorem wq_ap_put (n : Nat) (hn : 4294967297 < n) (a0 : Nat) (x1 : Int32) (x2 : Int32) (σ : wt_St) : wt_T (wp_ap_put n a0 x1 x2 σ) (fun q => wt_fr (fun i k => False) (fun i => i = a0) σ q) := by
  unfold wp_ap_put
  have b1 := wt_bd x1
  have k2 : (0 : Int32).toInt = 0 := by decide
  refine wt_T_if (fun h3 => ?_) (fun h3 => ?_)
  · skip
    have c4 := wt_clt h3
    refine wt_T_some ?_
    exact wt_fr.rf
  · skip
    have c5 := wt_ncl h3
    have b6 := wt_lnI a0
    refine wt_T_if (fun h7 => ?_) (fun h7 => ?_)
    · skip
      have c8 := wt_cle h7
      refine wt_T_some ?_
      exact wt_fr.rf
    · skip
      have c9 := wt_ncle h7
      have b10 := wt_ln_bd a0
      refine wt_T_gd (wt_ix (by omega) (by omega)) ?_
      obtain ⟨σ11, eσ11⟩ : ∃ z : wt_St, z = wt_sa σ a0 (Int32.toNatClampNeg x1) x2 := ⟨_, rfl⟩
      rw [← eσ11]
      have fσ11 := wt_fr_sa eσ11
      have vσ11 := wt_ceq (wt_v_sa eσ11)
      have b12 := wt_tn x1
      have b13 := wt_bd x2
      refine wt_T_some ?_
      exact (wt_fr.tr wt_fr.rf fσ11 (fun i k h => h.elim) (fun i h => by (try dsimp only at h); exact (by omega)))
set_option maxRecDepth 100000 in
set_option maxHeartbeats 4000000 in
theorem wq_st_clearPage (n : Nat) (hn : 4294967297 < n) (t0 : Nat) (x1 : Int32) (σ : wt_St) : wt_T (wp_st_clearPage n t0 x1 σ) (fun q => wt_fr (fun i k => False) (fun i => i = t0 + 4 ∨ i = t0 + 2) σ q) := by
  unfold wp_st_clearPage
  have k6 : (0 : Int32).toInt = 0 := by decide
  refine wt_T_it (fun s : Int32 × wt_St => wt_fr (fun i k => False) (fun i => i = t0 + 2) σ s.2 ∧ 0 ≤ (s.1).toInt) (fun s : Int32 × wt_St => ((312 : Int32).toInt - s.1.toInt + 0).toNat) (fun K1 s2 I3 hK1 => ?_) _ _ ?_ ?_
  · skip
    obtain ⟨l4, l5⟩ := I3
    unfold wp_st_clearPage_B2
    have k7 : (312 : Int32).toInt = 312 := by decide
    have b8 := wt_bd s2.1
    refine wt_T_if (fun h9 => ?_) (fun h9 => ?_)
    · skip
      have c10 := wt_cle h9
      have b11 := wt_bd n
      have b12 := wt_bd x1
      have k13 : (-1 : Int32).toInt = -1 := by decide
      refine wt_T_bi (wq_ap_put n hn (t0 + 4) x1 (-1 : Int32) s2.2) (fun q14 h15 => ?_)
      have f16 := h15
      refine wt_T_some ?_
      exact (wt_fr.tr (wt_fr.tr wt_fr.rf l4 (fun i k h => h.elim) (fun i h => by (try dsimp only at h); exact Or.inr ((by omega)))) f16 (fun i k h => h.elim) (fun i h => by (try dsimp only at h); exact Or.inl (by omega)))
    · skip
      have c17 := wt_ncle h9
      refine wt_T_gd (wt_ix (by omega) (by omega)) ?_
      have b18 := wt_tn s2.1
      have b19 := wt_bd (wt_ga s2.2 (t0 + 2) (Int32.toNatClampNeg s2.1))
      have b20 := wt_bd x1
      refine wt_T_if (fun h21 => ?_) (fun h21 => ?_)
      · skip
        have c22 := wt_ceq h21
        refine wt_T_gd (wt_ix (by omega) (by omega)) ?_
        obtain ⟨σ23, eσ23⟩ : ∃ z : wt_St, z = wt_sa s2.2 (t0 + 2) (Int32.toNatClampNeg s2.1) (-1 : Int32) := ⟨_, rfl⟩
        rw [← eσ23]
        have fσ23 := wt_fr_sa eσ23
        have vσ23 := wt_ceq (wt_v_sa eσ23)
        have k24 : (-1 : Int32).toInt = -1 := by decide
        unfold wp_st_clearPage_B28
        have k25 : (1 : Int32).toInt = 1 := by decide
        obtain ⟨j26, j26a, j26b⟩ := wt_addI s2.1 (1 : Int32)
        refine hK1 _ ⟨(wt_fr.tr (wt_fr.tr wt_fr.rf l4 (fun i k h => h.elim) (fun i h => by (try dsimp only at h); exact (by omega))) fσ23 (fun i k h => h.elim) (fun i h => by (try dsimp only at h); exact (by omega))), (by (try dsimp only); omega)⟩ ?_
        (try dsimp only); omega
      · skip
        have c27 := wt_nceq h21
        unfold wp_st_clearPage_B28
        have k28 : (1 : Int32).toInt = 1 := by decide
        obtain ⟨j29, j29a, j29b⟩ := wt_addI s2.1 (1 : Int32)
        refine hK1 _ ⟨(wt_fr.tr wt_fr.rf l4 (fun i k h => h.elim) (fun i h => by (try dsimp only at h); exact (by omega))), (by (try dsimp only); omega)⟩ ?_
        (try dsimp only); omega
  · skip
    have k30 : (312 : Int32).toInt = 312 := by decide
    exact ⟨wt_fr.rf, (by (try dsimp only); omega)⟩
  · skip
    have k31 : (312 : Int32).toInt = 312 := by decide
    (try dsimp only); omega
set_option maxRecDepth 100000 in
set_option maxHeartbeats 4000000 in
theorem wq_tx_has (n : Nat) (hn : 4294967297 < n) (x1 : Int32) (σ : wt_St) : wt_T (wp_tx_has n x1 σ) (fun q => q.2 = σ) := by
  unfold wp_tx_has
  have b1 := wt_bd x1
  have k2 : (0 : Int32).toInt = 0 := by decide
  refine wt_T_if (fun h3 => ?_) (fun h3 => ?_)
  · skip
    have c4 := wt_clt h3
    refine wt_T_some ?_
    exact rfl
  · skip
    have c5 := wt_ncl h3
    have b6 := wt_bd (wt_gf σ 34 4)
    refine wt_T_if (fun h7 => ?_) (fun h7 => ?_)
    · skip
      have c8 := wt_cle h7
      refine wt_T_some ?_
      exact rfl
    · skip
      have c9 := wt_ncle h7
      refine wt_T_some ?_
      exact rfl
set_option maxRecDepth 100000 in
set_option maxHeartbeats 4000000 in
theorem wq_tx_wordAt (n : Nat) (hn : 4294967297 < n) (x1 : Int32) (x2 : Int32) (σ : wt_St) : wt_T (wp_tx_wordAt n x1 x2 σ) (fun q => q.2 = σ) := by
  unfold wp_tx_wordAt
  have b1 := wt_bd x2
  have k2 : (0 : Int32).toInt = 0 := by decide
  refine wt_T_if (fun h3 => ?_) (fun h3 => ?_)
  · skip
    have c4 := wt_clt h3
    refine wt_T_some ?_
    exact rfl
  · skip
    have c5 := wt_ncl h3
    have b6 := wt_bd n
    have b7 := wt_bd x1
    refine wt_T_bi (wq_tx_lengthOf n hn x1 σ) (fun q8 h9 => ?_)
    obtain ⟨e10, e10v⟩ := h9
    have e11 := wt_ceq e10v
    have b12 := wt_bd (wt_lk 36 x1 σ)
    have b13 := wt_bd q8.1
    rw [e10]
    refine wt_T_if (fun h14 => ?_) (fun h14 => ?_)
    · skip
      have c15 := wt_cle h14
      refine wt_T_some ?_
      exact rfl
    · skip
      have c16 := wt_ncle h14
      have k17 : (12 : Int32).toInt = 12 := by decide
      obtain ⟨j18, j18a, j18b⟩ := wt_mulI x1 (12 : Int32)
      obtain ⟨j19, j19a, j19b⟩ := wt_addI (x1 * (12 : Int32)) x2
      refine wt_T_bi (wq_ap_look n hn 35 ((x1 * (12 : Int32)) + x2) σ) (fun q20 h21 => ?_)
      obtain ⟨e22, e22v⟩ := h21
      have e23 := wt_ceq e22v
      have b24 := wt_bd (wt_lk 35 ((x1 * (12 : Int32)) + x2) σ)
      have b25 := wt_bd q20.1
      rw [e22]
      refine wt_T_some ?_
      exact rfl
set_option maxRecDepth 100000 in
set_option maxHeartbeats 4000000 in
theorem wq_sk_lies (n : Nat) (hn : 4294967297 < n) (x1 : Int32) (σ : wt_St) : wt_T (wp_sk_lies n x1 σ) (fun q => q.2 = σ) := by
  unfold wp_sk_lies
  have b1 := wt_bd n
  have b2 := wt_bd x1
  refine wt_T_bi (wq_ap_look n hn 41 x1 σ) (fun q3 h4 => ?_)
  obtain ⟨e5, e5v⟩ := h4
  have e6 := wt_ceq e5v
  have b7 := wt_bd (wt_lk 41 x1 σ)
  have b8 := wt_bd q3.1
  rw [e5]
  have k9 : (-1 : Int32).toInt = -1 := by decide
  refine wt_T_if (fun h10 => ?_) (fun h10 => ?_)
  · skip
    have c11 := wt_ceq h10
    refine wt_T_some ?_
    exact rfl
  · skip
    have c12 := wt_nceq h10
    refine wt_T_some ?_
    exact rfl
set_option maxRecDepth 100000 in
set_option maxHeartbeats 4000000 in
theorem wq_sk_leftInCase (n : Nat) (hn : 4294967297 < n) (x1 : Int32) (σ : wt_St) : wt_T (wp_sk_leftInCase n x1 σ) (fun q => q.2 = σ) := by
  unfold wp_sk_leftInCase
  have k6 : (0 : Int32).toInt = 0 := by decide
  refine wt_T_it (fun s : Int32 × Int32 × wt_St => s.2.2 = σ ∧ 0 ≤ (s.2.1).toInt) (fun s : Int32 × Int32 × wt_St => ((wt_lk 5 x1 s.2.2).toInt - s.2.1.toInt + 0).toNat) (fun K1 s2 I3 hK1 => ?_) _ _ ?_ ?_
  · skip
    obtain ⟨l4, l5⟩ := I3
    unfold wp_sk_leftInCase_B4
    rw [l4]
    have b7 := wt_bd (wt_lk 5 x1 σ)
    have b8 := wt_bd s2.2.1
    have b9 := wt_bd n
    have b10 := wt_bd x1
    refine wt_T_bi (wq_sk_pieces n hn x1 σ) (fun q11 h12 => ?_)
    obtain ⟨e13, e13v⟩ := h12
    have e14 := wt_ceq e13v
    have b15 := wt_bd q11.1
    rw [e13]
    refine wt_T_if (fun h16 => ?_) (fun h16 => ?_)
    · skip
      have c17 := wt_cle h16
      refine wt_T_some ?_
      exact rfl
    · skip
      have c18 := wt_ncle h16
      have k19 : (12 : Int32).toInt = 12 := by decide
      obtain ⟨j20, j20a, j20b⟩ := wt_mulI x1 (12 : Int32)
      obtain ⟨j21, j21a, j21b⟩ := wt_addI (x1 * (12 : Int32)) s2.2.1
      refine wt_T_bi (wq_sk_lies n hn ((x1 * (12 : Int32)) + s2.2.1) σ) (fun q22 h23 => ?_)
      have e24 := h23
      rw [e24]
      have b25 := wt_bd q22.1
      refine wt_T_if (fun h26 => ?_) (fun h26 => ?_)
      · skip
        have c27 := wt_ceq h26
        unfold wp_sk_leftInCase_B47
        have b28 := wt_bd s2.1
        obtain ⟨j29, j29a, j29b⟩ := wt_addI s2.1 (0 : Int32)
        have k30 : (1 : Int32).toInt = 1 := by decide
        obtain ⟨j31, j31a, j31b⟩ := wt_addI s2.2.1 (1 : Int32)
        refine hK1 _ ⟨rfl, (by (try dsimp only); omega)⟩ ?_
        (try dsimp only); omega
      · skip
        have c32 := wt_nceq h26
        refine wt_T_bi (wq_ap_look n hn 40 ((x1 * (12 : Int32)) + s2.2.1) σ) (fun q33 h34 => ?_)
        obtain ⟨e35, e35v⟩ := h34
        have e36 := wt_ceq e35v
        have b37 := wt_bd (wt_lk 40 ((x1 * (12 : Int32)) + s2.2.1) σ)
        have b38 := wt_bd q33.1
        rw [e35]
        unfold wp_sk_leftInCase_B47
        have b39 := wt_bd s2.1
        obtain ⟨j40, j40a, j40b⟩ := wt_addI s2.1 q33.1
        have k41 : (1 : Int32).toInt = 1 := by decide
        obtain ⟨j42, j42a, j42b⟩ := wt_addI s2.2.1 (1 : Int32)
        refine hK1 _ ⟨rfl, (by (try dsimp only); omega)⟩ ?_
        (try dsimp only); omega
  · skip
    have b43 := wt_bd (wt_lk 5 x1 σ)
    exact ⟨rfl, (by (try dsimp only); omega)⟩
  · skip
    have b44 := wt_bd (wt_lk 5 x1 σ)
    (try dsimp only); omega
set_option maxRecDepth 100000 in
set_option maxHeartbeats 4000000 in
theorem wq_tx_needOf (n : Nat) (hn : 4294967297 < n) (x1 : Int32) (x2 : Int32) (σ : wt_St) : wt_T (wp_tx_needOf n x1 x2 σ) (fun q => q.2 = σ) := by
  unfold wp_tx_needOf
  have b1 := wt_bd n
  have b2 := wt_bd x1
  have k3 : (26 : Int32).toInt = 26 := by decide
  obtain ⟨j4, j4a, j4b⟩ := wt_mulI x1 (26 : Int32)
  have b5 := wt_bd x2
  obtain ⟨j6, j6a, j6b⟩ := wt_addI (x1 * (26 : Int32)) x2
  refine wt_T_bi (wq_ap_look n hn 37 ((x1 * (26 : Int32)) + x2) σ) (fun q7 h8 => ?_)
  obtain ⟨e9, e9v⟩ := h8
  have e10 := wt_ceq e9v
  have b11 := wt_bd (wt_lk 37 ((x1 * (26 : Int32)) + x2) σ)
  have b12 := wt_bd q7.1
  rw [e9]
  refine wt_T_some ?_
  exact rfl
set_option maxRecDepth 100000 in
set_option maxHeartbeats 4000000 in
theorem wq_wk_printsOf (n : Nat) (hn : 4294967297 < n) (x1 : Int32) (x2 : Int32) (σ : wt_St) : wt_T (wp_wk_printsOf n x1 x2 σ) (fun q => q.2 = σ) := by
  unfold wp_wk_printsOf
  have b1 := wt_bd n
  have b2 := wt_bd x1
  refine wt_T_bi (wq_ap_look n hn 44 x1 σ) (fun q3 h4 => ?_)
  obtain ⟨e5, e5v⟩ := h4
  have e6 := wt_ceq e5v
  have b7 := wt_bd (wt_lk 44 x1 σ)
  have b8 := wt_bd q3.1
  rw [e5]
  have b9 := wt_bd x2
  refine wt_T_bi (wq_tx_needOf n hn q3.1 x2 σ) (fun q10 h11 => ?_)
  have e12 := h11
  rw [e12]
  refine wt_T_bi (wq_ap_look n hn 45 x1 σ) (fun q13 h14 => ?_)
  obtain ⟨e15, e15v⟩ := h14
  have e16 := wt_ceq e15v
  have b17 := wt_bd (wt_lk 45 x1 σ)
  have b18 := wt_bd q13.1
  refine wt_T_some ?_
  exact rfl
set_option maxRecDepth 100000 in
set_option maxHeartbeats 4000000 in
theorem wq_wk_dearestOf (n : Nat) (hn : 4294967297 < n) (x1 : Int32) (x2 : Int32) (σ : wt_St) : wt_T (wp_wk_dearestOf n x1 x2 σ) (fun q => q.2 = σ) := by
  unfold wp_wk_dearestOf
  have k6 : (-1 : Int32).toInt = -1 := by decide
  have k7 : (0 : Int32).toInt = 0 := by decide
  refine wt_T_it (fun s : Int32 × Int32 × wt_St => s.2.2 = σ ∧ 0 ≤ (s.2.1).toInt) (fun s : Int32 × Int32 × wt_St => ((wt_gf s.2.2 39 8).toInt - s.2.1.toInt + 0).toNat) (fun K1 s2 I3 hK1 => ?_) _ _ ?_ ?_
  · skip
    obtain ⟨l4, l5⟩ := I3
    unfold wp_wk_dearestOf_B5
    rw [l4]
    have b8 := wt_bd (wt_gf σ 39 8)
    have b9 := wt_bd s2.2.1
    refine wt_T_if (fun h10 => ?_) (fun h10 => ?_)
    · skip
      have c11 := wt_cle h10
      refine wt_T_some ?_
      exact rfl
    · skip
      have c12 := wt_ncle h10
      have b13 := wt_bd x2
      have k14 : (31 : Int32).toInt = 31 := by decide
      have b15 := wt_bd (s2.2.1 &&& 31)
      have b16 := wt_bd (x2 >>> (s2.2.1 &&& 31))
      have k17 : (1 : Int32).toInt = 1 := by decide
      have b18 := wt_bd ((x2 >>> (s2.2.1 &&& 31)) &&& (1 : Int32))
      refine wt_T_if (fun h19 => ?_) (fun h19 => ?_)
      · skip
        have c20 := wt_ceq h19
        have b21 := wt_bd s2.1
        refine wt_T_if (fun h22 => ?_) (fun h22 => ?_)
        · skip
          have c23 := wt_ceq h22
          unfold wp_wk_dearestOf_B75
          unfold wp_wk_dearestOf_B78
          obtain ⟨j24, j24a, j24b⟩ := wt_addI s2.2.1 (1 : Int32)
          refine hK1 _ ⟨rfl, (by (try dsimp only); omega)⟩ ?_
          (try dsimp only); omega
        · skip
          have c25 := wt_nceq h22
          have b26 := wt_bd n
          refine wt_T_bi (wq_ap_look n hn 47 s2.2.1 σ) (fun q27 h28 => ?_)
          obtain ⟨e29, e29v⟩ := h28
          have e30 := wt_ceq e29v
          have b31 := wt_bd (wt_lk 47 s2.2.1 σ)
          have b32 := wt_bd q27.1
          rw [e29]
          have b33 := wt_bd x1
          refine wt_T_bi (wq_wk_printsOf n hn s2.1 x1 σ) (fun q34 h35 => ?_)
          have e36 := h35
          rw [e36]
          refine wt_T_bi (wq_ap_look n hn 47 s2.1 σ) (fun q37 h38 => ?_)
          obtain ⟨e39, e39v⟩ := h38
          have e40 := wt_ceq e39v
          have b41 := wt_bd (wt_lk 47 s2.1 σ)
          have b42 := wt_bd q37.1
          rw [e39]
          refine wt_T_bi (wq_wk_printsOf n hn s2.2.1 x1 σ) (fun q43 h44 => ?_)
          have e45 := h44
          rw [e45]
          have b46 := wt_bd q34.1
          obtain ⟨j47, j47a, j47b⟩ := wt_mulI q27.1 q34.1
          have b48 := wt_bd q43.1
          obtain ⟨j49, j49a, j49b⟩ := wt_mulI q37.1 q43.1
          refine wt_T_if (fun h50 => ?_) (fun h50 => ?_)
          · skip
            have c51 := wt_cle h50
            unfold wp_wk_dearestOf_B78
            obtain ⟨j52, j52a, j52b⟩ := wt_addI s2.2.1 (1 : Int32)
            refine hK1 _ ⟨rfl, (by (try dsimp only); omega)⟩ ?_
            (try dsimp only); omega
          · skip
            have c53 := wt_ncle h50
            unfold wp_wk_dearestOf_B75
            unfold wp_wk_dearestOf_B78
            obtain ⟨j54, j54a, j54b⟩ := wt_addI s2.2.1 (1 : Int32)
            refine hK1 _ ⟨rfl, (by (try dsimp only); omega)⟩ ?_
            (try dsimp only); omega
      · skip
        have c55 := wt_nceq h19
        unfold wp_wk_dearestOf_B78
        have b56 := wt_bd s2.1
        obtain ⟨j57, j57a, j57b⟩ := wt_addI s2.2.1 (1 : Int32)
        refine hK1 _ ⟨rfl, (by (try dsimp only); omega)⟩ ?_
        (try dsimp only); omega
  · skip
    have b58 := wt_bd (wt_gf σ 39 8)
    exact ⟨rfl, (by (try dsimp only); omega)⟩
  · skip
    have b59 := wt_bd (wt_gf σ 39 8)
    (try dsimp only); omega
set_option maxRecDepth 100000 in
set_option maxHeartbeats 4000000 in
theorem wq_sk_ready (n : Nat) (hn : 4294967297 < n) (a3 : Nat) (x1 : Int32) (x2 : Int32) (σ : wt_St) : wt_T (wp_sk_ready n a3 x1 x2 σ) (fun q => q.2 = σ) := by
  unfold wp_sk_ready
  have k6 : (0 : Int32).toInt = 0 := by decide
  refine wt_T_it (fun s : Int32 × Int32 × wt_St => s.2.2 = σ ∧ 0 ≤ (s.2.1).toInt) (fun s : Int32 × Int32 × wt_St => ((wt_lk 5 x1 s.2.2).toInt - s.2.1.toInt + 0).toNat) (fun K1 s2 I3 hK1 => ?_) _ _ ?_ ?_
  · skip
    obtain ⟨l4, l5⟩ := I3
    unfold wp_sk_ready_B6
    rw [l4]
    have b7 := wt_bd (wt_lk 5 x1 σ)
    have b8 := wt_bd s2.2.1
    have b9 := wt_bd n
    have b10 := wt_bd x1
    refine wt_T_bi (wq_sk_pieces n hn x1 σ) (fun q11 h12 => ?_)
    obtain ⟨e13, e13v⟩ := h12
    have e14 := wt_ceq e13v
    have b15 := wt_bd q11.1
    rw [e13]
    refine wt_T_if (fun h16 => ?_) (fun h16 => ?_)
    · skip
      have c17 := wt_cle h16
      refine wt_T_some ?_
      exact rfl
    · skip
      have c18 := wt_ncle h16
      have k19 : (12 : Int32).toInt = 12 := by decide
      obtain ⟨j20, j20a, j20b⟩ := wt_mulI x1 (12 : Int32)
      obtain ⟨j21, j21a, j21b⟩ := wt_addI (x1 * (12 : Int32)) s2.2.1
      refine wt_T_bi (wq_sk_lies n hn ((x1 * (12 : Int32)) + s2.2.1) σ) (fun q22 h23 => ?_)
      have e24 := h23
      rw [e24]
      have b25 := wt_bd q22.1
      refine wt_T_if (fun h26 => ?_) (fun h26 => ?_)
      · skip
        have c27 := wt_ceq h26
        unfold wp_sk_ready_B50
        unfold wp_sk_ready_B51
        have b28 := wt_bd s2.1
        obtain ⟨j29, j29a, j29b⟩ := wt_addI s2.1 (0 : Int32)
        have k30 : (1 : Int32).toInt = 1 := by decide
        obtain ⟨j31, j31a, j31b⟩ := wt_addI s2.2.1 (1 : Int32)
        refine hK1 _ ⟨rfl, (by (try dsimp only); omega)⟩ ?_
        (try dsimp only); omega
      · skip
        have c32 := wt_nceq h26
        refine wt_T_bi (wq_ap_look n hn a3 ((x1 * (12 : Int32)) + s2.2.1) σ) (fun q33 h34 => ?_)
        obtain ⟨e35, e35v⟩ := h34
        have e36 := wt_ceq e35v
        have b37 := wt_bd (wt_lk a3 ((x1 * (12 : Int32)) + s2.2.1) σ)
        have b38 := wt_bd q33.1
        rw [e35]
        have b39 := wt_bd x2
        refine wt_T_if (fun h40 => ?_) (fun h40 => ?_)
        · skip
          have c41 := wt_clt h40
          unfold wp_sk_ready_B50
          unfold wp_sk_ready_B51
          have b42 := wt_bd s2.1
          obtain ⟨j43, j43a, j43b⟩ := wt_addI s2.1 (0 : Int32)
          have k44 : (1 : Int32).toInt = 1 := by decide
          obtain ⟨j45, j45a, j45b⟩ := wt_addI s2.2.1 (1 : Int32)
          refine hK1 _ ⟨rfl, (by (try dsimp only); omega)⟩ ?_
          (try dsimp only); omega
        · skip
          have c46 := wt_ncl h40
          unfold wp_sk_ready_B51
          have b47 := wt_bd s2.1
          have k48 : (1 : Int32).toInt = 1 := by decide
          obtain ⟨j49, j49a, j49b⟩ := wt_addI s2.1 (1 : Int32)
          obtain ⟨j50, j50a, j50b⟩ := wt_addI s2.2.1 (1 : Int32)
          refine hK1 _ ⟨rfl, (by (try dsimp only); omega)⟩ ?_
          (try dsimp only); omega
  · skip
    have b51 := wt_bd (wt_lk 5 x1 σ)
    exact ⟨rfl, (by (try dsimp only); omega)⟩
  · skip
    have b52 := wt_bd (wt_lk 5 x1 σ)
    (try dsimp only); omega
set_option maxRecDepth 100000 in
set_option maxHeartbeats 4000000 in
theorem wq_sk_reach (n : Nat) (hn : 4294967297 < n) (a3 : Nat) (x1 : Int32) (x2 : Int32) (σ : wt_St) : wt_T (wp_sk_reach n a3 x1 x2 σ) (fun q => q.2 = σ) := by
  unfold wp_sk_reach
  have k1 : (0 : Int32).toInt = 0 := by decide
  have b2 := wt_bd x2
  refine wt_T_if (fun h3 => ?_) (fun h3 => ?_)
  · skip
    have c4 := wt_clt h3
    refine wt_T_it (fun s : Int32 × Int32 × wt_St => s.2.2 = σ ∧ 0 ≤ (s.2.1).toInt) (fun s : Int32 × Int32 × wt_St => ((wt_lk 5 x1 s.2.2).toInt - s.2.1.toInt + 0).toNat) (fun K5 s6 I7 hK5 => ?_) _ _ ?_ ?_
    · skip
      obtain ⟨l8, l9⟩ := I7
      unfold wp_sk_reach_B13
      rw [l8]
      have b10 := wt_bd (wt_lk 5 x1 σ)
      have b11 := wt_bd s6.2.1
      have b12 := wt_bd n
      have b13 := wt_bd x1
      refine wt_T_bi (wq_sk_pieces n hn x1 σ) (fun q14 h15 => ?_)
      obtain ⟨e16, e16v⟩ := h15
      have e17 := wt_ceq e16v
      have b18 := wt_bd q14.1
      rw [e16]
      refine wt_T_if (fun h19 => ?_) (fun h19 => ?_)
      · skip
        have c20 := wt_cle h19
        refine wt_T_some ?_
        exact rfl
      · skip
        have c21 := wt_ncle h19
        have k22 : (12 : Int32).toInt = 12 := by decide
        obtain ⟨j23, j23a, j23b⟩ := wt_mulI x1 (12 : Int32)
        obtain ⟨j24, j24a, j24b⟩ := wt_addI (x1 * (12 : Int32)) s6.2.1
        refine wt_T_bi (wq_ap_look n hn a3 ((x1 * (12 : Int32)) + s6.2.1) σ) (fun q25 h26 => ?_)
        obtain ⟨e27, e27v⟩ := h26
        have e28 := wt_ceq e27v
        have b29 := wt_bd (wt_lk a3 ((x1 * (12 : Int32)) + s6.2.1) σ)
        have b30 := wt_bd q25.1
        rw [e27]
        refine wt_T_bi (wq_sk_lies n hn ((x1 * (12 : Int32)) + s6.2.1) σ) (fun q31 h32 => ?_)
        have e33 := h32
        rw [e33]
        have b34 := wt_bd q31.1
        refine wt_T_if (fun h35 => ?_) (fun h35 => ?_)
        · skip
          have c36 := wt_ceq h35
          unfold wp_sk_reach_B72
          have b37 := wt_bd s6.1
          have k38 : (1 : Int32).toInt = 1 := by decide
          obtain ⟨j39, j39a, j39b⟩ := wt_addI s6.2.1 (1 : Int32)
          refine hK5 _ ⟨rfl, (by (try dsimp only); omega)⟩ ?_
          (try dsimp only); omega
        · skip
          have c40 := wt_nceq h35
          have b41 := wt_bd s6.1
          refine wt_T_if (fun h42 => ?_) (fun h42 => ?_)
          · skip
            have c43 := wt_cle h42
            unfold wp_sk_reach_B72
            have k44 : (1 : Int32).toInt = 1 := by decide
            obtain ⟨j45, j45a, j45b⟩ := wt_addI s6.2.1 (1 : Int32)
            refine hK5 _ ⟨rfl, (by (try dsimp only); omega)⟩ ?_
            (try dsimp only); omega
          · skip
            have c46 := wt_ncle h42
            refine wt_T_bi (wq_sk_ready n hn a3 x1 q25.1 σ) (fun q47 h48 => ?_)
            have e49 := h48
            rw [e49]
            have b50 := wt_bd q47.1
            refine wt_T_if (fun h51 => ?_) (fun h51 => ?_)
            · skip
              have c52 := wt_clt h51
              unfold wp_sk_reach_B72
              have k53 : (1 : Int32).toInt = 1 := by decide
              obtain ⟨j54, j54a, j54b⟩ := wt_addI s6.2.1 (1 : Int32)
              refine hK5 _ ⟨rfl, (by (try dsimp only); omega)⟩ ?_
              (try dsimp only); omega
            · skip
              have c55 := wt_ncl h51
              unfold wp_sk_reach_B72
              have k56 : (1 : Int32).toInt = 1 := by decide
              obtain ⟨j57, j57a, j57b⟩ := wt_addI s6.2.1 (1 : Int32)
              refine hK5 _ ⟨rfl, (by (try dsimp only); omega)⟩ ?_
              (try dsimp only); omega
    · skip
      have b58 := wt_bd (wt_lk 5 x1 σ)
      exact ⟨rfl, (by (try dsimp only); omega)⟩
    · skip
      have b59 := wt_bd (wt_lk 5 x1 σ)
      (try dsimp only); omega
  · skip
    have c60 := wt_ncl h3
    refine wt_T_some ?_
    exact rfl
set_option maxRecDepth 100000 in
set_option maxHeartbeats 4000000 in
theorem wq_sk_often (n : Nat) (hn : 4294967297 < n) (a1 : Nat) (a2 : Nat) (σ : wt_St) : wt_T (wp_sk_often n a1 a2 σ) (fun q => q.2 = σ) := by
  unfold wp_sk_often
  have k6 : (1000000 : Int32).toInt = 1000000 := by decide
  have k7 : (0 : Int32).toInt = 0 := by decide
  refine wt_T_it (fun s : Int32 × Int32 × wt_St => s.2.2 = σ ∧ 0 ≤ (s.2.1).toInt) (fun s : Int32 × Int32 × wt_St => ((nI (wt_ln a1)).toInt - s.2.1.toInt + 0).toNat) (fun K1 s2 I3 hK1 => ?_) _ _ ?_ ?_
  · skip
    obtain ⟨l4, l5⟩ := I3
    unfold wp_sk_often_B6
    rw [l4]
    have b8 := wt_lnI a1
    have b9 := wt_bd s2.2.1
    refine wt_T_if (fun h10 => ?_) (fun h10 => ?_)
    · skip
      have c11 := wt_cle h10
      refine wt_T_some ?_
      exact rfl
    · skip
      have c12 := wt_ncle h10
      have b13 := wt_ln_bd a1
      refine wt_T_gd (wt_ix (by omega) (by omega)) ?_
      have b14 := wt_bd n
      have b15 := wt_tn s2.2.1
      have b16 := wt_bd (wt_ga σ a1 (Int32.toNatClampNeg s2.2.1))
      refine wt_T_bi (wq_sk_reach n hn a2 s2.2.1 (wt_ga σ a1 (Int32.toNatClampNeg s2.2.1)) σ) (fun q17 h18 => ?_)
      have e19 := h18
      rw [e19]
      have b20 := wt_bd q17.1
      have b21 := wt_bd s2.1
      have b22 := wt_bd (if q17.1 < s2.1 then q17.1 else s2.1)
      have i23 : ((q17.1 < s2.1) ∧ (if q17.1 < s2.1 then q17.1 else s2.1) = q17.1) ∨ (¬ (q17.1 < s2.1) ∧ (if q17.1 < s2.1 then q17.1 else s2.1) = s2.1) := by
        by_cases h : q17.1 < s2.1
        · exact Or.inl ⟨h, if_pos h⟩
        · exact Or.inr ⟨h, if_neg h⟩
      have i24 : (q17.1.toInt < s2.1.toInt ∧ (if q17.1 < s2.1 then q17.1 else s2.1).toInt = q17.1.toInt) ∨ (s2.1.toInt ≤ q17.1.toInt ∧ (if q17.1 < s2.1 then q17.1 else s2.1).toInt = s2.1.toInt) := i23.elim (fun h => Or.inl ⟨(wt_clt h.1), wt_ceq h.2⟩) (fun h => Or.inr ⟨(wt_ncl h.1), wt_ceq h.2⟩)
      have k25 : (1 : Int32).toInt = 1 := by decide
      obtain ⟨j26, j26a, j26b⟩ := wt_addI s2.2.1 (1 : Int32)
      refine hK1 _ ⟨rfl, (by (try dsimp only); omega)⟩ ?_
      (try dsimp only); omega
  · skip
    have b27 := wt_lnI a1
    exact ⟨rfl, (by (try dsimp only); omega)⟩
  · skip
    have b28 := wt_lnI a1
    (try dsimp only); omega
set_option maxRecDepth 100000 in
set_option maxHeartbeats 4000000 in
theorem wq_tx_spell (n : Nat) (hn : 4294967297 < n) (a2 : Nat) (x1 : Int32) (σ : wt_St) : wt_T (wp_tx_spell n a2 x1 σ) (fun q => wt_fr (fun i k => False) (fun i => i = a2) σ q) := by
  unfold wp_tx_spell
  have k6 : (0 : Int32).toInt = 0 := by decide
  refine wt_T_it (fun s : Int32 × wt_St => wt_fr (fun i k => False) (fun i => i = a2) σ s.2 ∧ 0 ≤ (s.1).toInt) (fun s : Int32 × wt_St => ((nI (wt_ln a2)).toInt - s.1.toInt + 0).toNat) (fun K1 s2 I3 hK1 => ?_) _ _ ?_ ?_
  · skip
    obtain ⟨l4, l5⟩ := I3
    unfold wp_tx_spell_B2
    have b7 := wt_lnI a2
    have b8 := wt_bd s2.1
    refine wt_T_if (fun h9 => ?_) (fun h9 => ?_)
    · skip
      have c10 := wt_cle h9
      refine wt_T_some ?_
      exact (wt_fr.tr wt_fr.rf l4 (fun i k h => h.elim) (fun i h => by (try dsimp only at h); exact (by omega)))
    · skip
      have c11 := wt_ncle h9
      have b12 := wt_bd n
      have b13 := wt_bd x1
      refine wt_T_bi (wq_tx_needOf n hn x1 s2.1 s2.2) (fun q14 h15 => ?_)
      have e16 := h15
      rw [e16]
      have b17 := wt_ln_bd a2
      refine wt_T_gd (wt_ix (by omega) (by omega)) ?_
      obtain ⟨σ18, eσ18⟩ : ∃ z : wt_St, z = wt_sa s2.2 a2 (Int32.toNatClampNeg s2.1) q14.1 := ⟨_, rfl⟩
      rw [← eσ18]
      have fσ18 := wt_fr_sa eσ18
      have vσ18 := wt_ceq (wt_v_sa eσ18)
      have b19 := wt_tn s2.1
      have b20 := wt_bd q14.1
      have k21 : (1 : Int32).toInt = 1 := by decide
      obtain ⟨j22, j22a, j22b⟩ := wt_addI s2.1 (1 : Int32)
      refine hK1 _ ⟨(wt_fr.tr (wt_fr.tr wt_fr.rf l4 (fun i k h => h.elim) (fun i h => by (try dsimp only at h); exact (by omega))) fσ18 (fun i k h => h.elim) (fun i h => by (try dsimp only at h); exact (by omega))), (by (try dsimp only); omega)⟩ ?_
      (try dsimp only); omega
  · skip
    have b23 := wt_lnI a2
    exact ⟨wt_fr.rf, (by (try dsimp only); omega)⟩
  · skip
    have b24 := wt_lnI a2
    (try dsimp only); omega
set_option maxRecDepth 100000 in
set_option maxHeartbeats 4000000 in
theorem wq_tr_leastOf (n : Nat) (hn : 4294967297 < n) (x1 : Int32) (x2 : Int32) (σ : wt_St) : wt_T (wp_tr_leastOf n x1 x2 σ) (fun q => q.2 = σ) := by
  unfold wp_tr_leastOf
  have k6 : (1000000 : Int32).toInt = 1000000 := by decide
  have k7 : (0 : Int32).toInt = 0 := by decide
  refine wt_T_it (fun s : Int32 × Int32 × wt_St => s.2.2 = σ ∧ 0 ≤ (s.2.1).toInt) (fun s : Int32 × Int32 × wt_St => ((26 : Int32).toInt - s.2.1.toInt + 0).toNat) (fun K1 s2 I3 hK1 => ?_) _ _ ?_ ?_
  · skip
    obtain ⟨l4, l5⟩ := I3
    unfold wp_tr_leastOf_B6
    rw [l4]
    have k8 : (26 : Int32).toInt = 26 := by decide
    have b9 := wt_bd s2.2.1
    refine wt_T_if (fun h10 => ?_) (fun h10 => ?_)
    · skip
      have c11 := wt_cle h10
      refine wt_T_some ?_
      exact rfl
    · skip
      have c12 := wt_ncle h10
      have b13 := wt_bd x2
      refine wt_T_if (fun h14 => ?_) (fun h14 => ?_)
      · skip
        have c15 := wt_ceq h14
        unfold wp_tr_leastOf_B30
        have b16 := wt_bd n
        refine wt_T_bi (wq_ap_look n hn 104 s2.2.1 σ) (fun q17 h18 => ?_)
        obtain ⟨e19, e19v⟩ := h18
        have e20 := wt_ceq e19v
        have b21 := wt_bd (wt_lk 104 s2.2.1 σ)
        have b22 := wt_bd q17.1
        rw [e19]
        have b23 := wt_bd x1
        refine wt_T_if (fun h24 => ?_) (fun h24 => ?_)
        · skip
          have c25 := wt_ceq h24
          refine wt_T_if (fun h26 => ?_) (fun h26 => ?_)
          · skip
            have c27 := wt_ceq h26
            unfold wp_tr_leastOf_B60
            refine wt_T_bi (wq_ap_look n hn 105 s2.2.1 σ) (fun q28 h29 => ?_)
            obtain ⟨e30, e30v⟩ := h29
            have e31 := wt_ceq e30v
            have b32 := wt_bd (wt_lk 105 s2.2.1 σ)
            have b33 := wt_bd q28.1
            rw [e30]
            unfold wp_tr_leastOf_B67
            have b34 := wt_bd s2.1
            have b35 := wt_bd (if q28.1 < s2.1 then q28.1 else s2.1)
            have i36 : ((q28.1 < s2.1) ∧ (if q28.1 < s2.1 then q28.1 else s2.1) = q28.1) ∨ (¬ (q28.1 < s2.1) ∧ (if q28.1 < s2.1 then q28.1 else s2.1) = s2.1) := by
              by_cases h : q28.1 < s2.1
              · exact Or.inl ⟨h, if_pos h⟩
              · exact Or.inr ⟨h, if_neg h⟩
            have i37 : (q28.1.toInt < s2.1.toInt ∧ (if q28.1 < s2.1 then q28.1 else s2.1).toInt = q28.1.toInt) ∨ (s2.1.toInt ≤ q28.1.toInt ∧ (if q28.1 < s2.1 then q28.1 else s2.1).toInt = s2.1.toInt) := i36.elim (fun h => Or.inl ⟨(wt_clt h.1), wt_ceq h.2⟩) (fun h => Or.inr ⟨(wt_ncl h.1), wt_ceq h.2⟩)
            have k38 : (1 : Int32).toInt = 1 := by decide
            obtain ⟨j39, j39a, j39b⟩ := wt_addI s2.2.1 (1 : Int32)
            refine hK1 _ ⟨rfl, (by (try dsimp only); omega)⟩ ?_
            (try dsimp only); omega
          · skip
            have c40 := wt_nceq h26
            unfold wp_tr_leastOf_B60
            refine wt_T_bi (wq_ap_look n hn 103 s2.2.1 σ) (fun q41 h42 => ?_)
            obtain ⟨e43, e43v⟩ := h42
            have e44 := wt_ceq e43v
            have b45 := wt_bd (wt_lk 103 s2.2.1 σ)
            have b46 := wt_bd q41.1
            rw [e43]
            unfold wp_tr_leastOf_B67
            have b47 := wt_bd s2.1
            have b48 := wt_bd (if q41.1 < s2.1 then q41.1 else s2.1)
            have i49 : ((q41.1 < s2.1) ∧ (if q41.1 < s2.1 then q41.1 else s2.1) = q41.1) ∨ (¬ (q41.1 < s2.1) ∧ (if q41.1 < s2.1 then q41.1 else s2.1) = s2.1) := by
              by_cases h : q41.1 < s2.1
              · exact Or.inl ⟨h, if_pos h⟩
              · exact Or.inr ⟨h, if_neg h⟩
            have i50 : (q41.1.toInt < s2.1.toInt ∧ (if q41.1 < s2.1 then q41.1 else s2.1).toInt = q41.1.toInt) ∨ (s2.1.toInt ≤ q41.1.toInt ∧ (if q41.1 < s2.1 then q41.1 else s2.1).toInt = s2.1.toInt) := i49.elim (fun h => Or.inl ⟨(wt_clt h.1), wt_ceq h.2⟩) (fun h => Or.inr ⟨(wt_ncl h.1), wt_ceq h.2⟩)
            have k51 : (1 : Int32).toInt = 1 := by decide
            obtain ⟨j52, j52a, j52b⟩ := wt_addI s2.2.1 (1 : Int32)
            refine hK1 _ ⟨rfl, (by (try dsimp only); omega)⟩ ?_
            (try dsimp only); omega
        · skip
          have c53 := wt_nceq h24
          unfold wp_tr_leastOf_B67
          have b54 := wt_bd s2.1
          have b55 := wt_bd (if q17.1 < s2.1 then q17.1 else s2.1)
          have i56 : ((q17.1 < s2.1) ∧ (if q17.1 < s2.1 then q17.1 else s2.1) = q17.1) ∨ (¬ (q17.1 < s2.1) ∧ (if q17.1 < s2.1 then q17.1 else s2.1) = s2.1) := by
            by_cases h : q17.1 < s2.1
            · exact Or.inl ⟨h, if_pos h⟩
            · exact Or.inr ⟨h, if_neg h⟩
          have i57 : (q17.1.toInt < s2.1.toInt ∧ (if q17.1 < s2.1 then q17.1 else s2.1).toInt = q17.1.toInt) ∨ (s2.1.toInt ≤ q17.1.toInt ∧ (if q17.1 < s2.1 then q17.1 else s2.1).toInt = s2.1.toInt) := i56.elim (fun h => Or.inl ⟨(wt_clt h.1), wt_ceq h.2⟩) (fun h => Or.inr ⟨(wt_ncl h.1), wt_ceq h.2⟩)
          have k58 : (1 : Int32).toInt = 1 := by decide
          obtain ⟨j59, j59a, j59b⟩ := wt_addI s2.2.1 (1 : Int32)
          refine hK1 _ ⟨rfl, (by (try dsimp only); omega)⟩ ?_
          (try dsimp only); omega
      · skip
        have c60 := wt_nceq h14
        unfold wp_tr_leastOf_B30
        have b61 := wt_bd n
        refine wt_T_bi (wq_ap_look n hn 102 s2.2.1 σ) (fun q62 h63 => ?_)
        obtain ⟨e64, e64v⟩ := h63
        have e65 := wt_ceq e64v
        have b66 := wt_bd (wt_lk 102 s2.2.1 σ)
        have b67 := wt_bd q62.1
        rw [e64]
        have b68 := wt_bd x1
        refine wt_T_if (fun h69 => ?_) (fun h69 => ?_)
        · skip
          have c70 := wt_ceq h69
          refine wt_T_if (fun h71 => ?_) (fun h71 => ?_)
          · skip
            have c72 := wt_ceq h71
            unfold wp_tr_leastOf_B60
            refine wt_T_bi (wq_ap_look n hn 105 s2.2.1 σ) (fun q73 h74 => ?_)
            obtain ⟨e75, e75v⟩ := h74
            have e76 := wt_ceq e75v
            have b77 := wt_bd (wt_lk 105 s2.2.1 σ)
            have b78 := wt_bd q73.1
            rw [e75]
            unfold wp_tr_leastOf_B67
            have b79 := wt_bd s2.1
            have b80 := wt_bd (if q73.1 < s2.1 then q73.1 else s2.1)
            have i81 : ((q73.1 < s2.1) ∧ (if q73.1 < s2.1 then q73.1 else s2.1) = q73.1) ∨ (¬ (q73.1 < s2.1) ∧ (if q73.1 < s2.1 then q73.1 else s2.1) = s2.1) := by
              by_cases h : q73.1 < s2.1
              · exact Or.inl ⟨h, if_pos h⟩
              · exact Or.inr ⟨h, if_neg h⟩
            have i82 : (q73.1.toInt < s2.1.toInt ∧ (if q73.1 < s2.1 then q73.1 else s2.1).toInt = q73.1.toInt) ∨ (s2.1.toInt ≤ q73.1.toInt ∧ (if q73.1 < s2.1 then q73.1 else s2.1).toInt = s2.1.toInt) := i81.elim (fun h => Or.inl ⟨(wt_clt h.1), wt_ceq h.2⟩) (fun h => Or.inr ⟨(wt_ncl h.1), wt_ceq h.2⟩)
            have k83 : (1 : Int32).toInt = 1 := by decide
            obtain ⟨j84, j84a, j84b⟩ := wt_addI s2.2.1 (1 : Int32)
            refine hK1 _ ⟨rfl, (by (try dsimp only); omega)⟩ ?_
            (try dsimp only); omega
          · skip
            have c85 := wt_nceq h71
            unfold wp_tr_leastOf_B60
            refine wt_T_bi (wq_ap_look n hn 103 s2.2.1 σ) (fun q86 h87 => ?_)
            obtain ⟨e88, e88v⟩ := h87
            have e89 := wt_ceq e88v
            have b90 := wt_bd (wt_lk 103 s2.2.1 σ)
            have b91 := wt_bd q86.1
            rw [e88]
            unfold wp_tr_leastOf_B67
            have b92 := wt_bd s2.1
            have b93 := wt_bd (if q86.1 < s2.1 then q86.1 else s2.1)
            have i94 : ((q86.1 < s2.1) ∧ (if q86.1 < s2.1 then q86.1 else s2.1) = q86.1) ∨ (¬ (q86.1 < s2.1) ∧ (if q86.1 < s2.1 then q86.1 else s2.1) = s2.1) := by
              by_cases h : q86.1 < s2.1
              · exact Or.inl ⟨h, if_pos h⟩
              · exact Or.inr ⟨h, if_neg h⟩
            have i95 : (q86.1.toInt < s2.1.toInt ∧ (if q86.1 < s2.1 then q86.1 else s2.1).toInt = q86.1.toInt) ∨ (s2.1.toInt ≤ q86.1.toInt ∧ (if q86.1 < s2.1 then q86.1 else s2.1).toInt = s2.1.toInt) := i94.elim (fun h => Or.inl ⟨(wt_clt h.1), wt_ceq h.2⟩) (fun h => Or.inr ⟨(wt_ncl h.1), wt_ceq h.2⟩)
            have k96 : (1 : Int32).toInt = 1 := by decide
            obtain ⟨j97, j97a, j97b⟩ := wt_addI s2.2.1 (1 : Int32)
            refine hK1 _ ⟨rfl, (by (try dsimp only); omega)⟩ ?_
            (try dsimp only); omega
        · skip
          have c98 := wt_nceq h69
          unfold wp_tr_leastOf_B67
          have b99 := wt_bd s2.1
          have b100 := wt_bd (if q62.1 < s2.1 then q62.1 else s2.1)
          have i101 : ((q62.1 < s2.1) ∧ (if q62.1 < s2.1 then q62.1 else s2.1) = q62.1) ∨ (¬ (q62.1 < s2.1) ∧ (if q62.1 < s2.1 then q62.1 else s2.1) = s2.1) := by
            by_cases h : q62.1 < s2.1
            · exact Or.inl ⟨h, if_pos h⟩
            · exact Or.inr ⟨h, if_neg h⟩
          have i102 : (q62.1.toInt < s2.1.toInt ∧ (if q62.1 < s2.1 then q62.1 else s2.1).toInt = q62.1.toInt) ∨ (s2.1.toInt ≤ q62.1.toInt ∧ (if q62.1 < s2.1 then q62.1 else s2.1).toInt = s2.1.toInt) := i101.elim (fun h => Or.inl ⟨(wt_clt h.1), wt_ceq h.2⟩) (fun h => Or.inr ⟨(wt_ncl h.1), wt_ceq h.2⟩)
          have k103 : (1 : Int32).toInt = 1 := by decide
          obtain ⟨j104, j104a, j104b⟩ := wt_addI s2.2.1 (1 : Int32)
          refine hK1 _ ⟨rfl, (by (try dsimp only); omega)⟩ ?_
          (try dsimp only); omega
  · skip
    have k105 : (26 : Int32).toInt = 26 := by decide
    exact ⟨rfl, (by (try dsimp only); omega)⟩
  · skip
    have k106 : (26 : Int32).toInt = 26 := by decide
    (try dsimp only); omega
set_option maxRecDepth 100000 in
set_option maxHeartbeats 4000000 in
theorem wq_tr_joined (n : Nat) (hn : 4294967297 < n) (x0 : Int32) (x1 : Int32) (x2 : Int32) (σ : wt_St) : wt_T (wp_tr_joined n x0 x1 x2 σ) (fun q => q.2 = σ) := by
  unfold wp_tr_joined
  refine wt_T_some ?_
  exact rfl
set_option maxRecDepth 100000 in
set_option maxHeartbeats 4000000 in
theorem wq_sk_inCase (n : Nat) (hn : 4294967297 < n) (x1 : Int32) (σ : wt_St) : wt_T (wp_sk_inCase n x1 σ) (fun q => q.2 = σ) := by
  unfold wp_sk_inCase
  have b1 := wt_bd n
  have b2 := wt_bd x1
  have k3 : (0 : Int32).toInt = 0 := by decide
  refine wt_T_bi (wq_sk_ready n hn 40 x1 (0 : Int32) σ) (fun q4 h5 => ?_)
  have e6 := h5
  rw [e6]
  refine wt_T_some ?_
  exact rfl
set_option maxRecDepth 100000 in
set_option maxHeartbeats 4000000 in
theorem wq_tr_reachWithoutLeast (n : Nat) (hn : 4294967297 < n) (x1 : Int32) (x2 : Int32) (σ : wt_St) : wt_T (wp_tr_reachWithoutLeast n x1 x2 σ) (fun q => q.2 = σ) := by
  unfold wp_tr_reachWithoutLeast
  have b1 := wt_bd x2
  have k2 : (0 : Int32).toInt = 0 := by decide
  refine wt_T_if (fun h3 => ?_) (fun h3 => ?_)
  · skip
    have c4 := wt_cle h3
    unfold wp_tr_reachWithoutLeast_B20
    have b5 := wt_bd n
    have b6 := wt_bd x1
    refine wt_T_bi (wq_sk_reach n hn 40 x1 x2 σ) (fun q7 h8 => ?_)
    have e9 := h8
    rw [e9]
    refine wt_T_some ?_
    exact rfl
  · skip
    have c10 := wt_ncle h3
    have b11 := wt_bd n
    have b12 := wt_bd x1
    refine wt_T_bi (wq_sk_inCase n hn x1 σ) (fun q13 h14 => ?_)
    have e15 := h14
    rw [e15]
    have b16 := wt_bd q13.1
    refine wt_T_if (fun h17 => ?_) (fun h17 => ?_)
    · skip
      have c18 := wt_clt h17
      unfold wp_tr_reachWithoutLeast_B20
      refine wt_T_bi (wq_sk_reach n hn 40 x1 x2 σ) (fun q19 h20 => ?_)
      have e21 := h20
      rw [e21]
      refine wt_T_some ?_
      exact rfl
    · skip
      have c22 := wt_ncl h17
      refine wt_T_some ?_
      exact rfl
set_option maxRecDepth 100000 in
set_option maxHeartbeats 4000000 in
theorem wq_tr_weigh (n : Nat) (hn : 4294967297 < n) (x1 : Int32) (x2 : Int32) (x3 : Int32) (σ : wt_St) : wt_T (wp_tr_weigh n x1 x2 x3 σ) (fun q => wt_fr (fun i k => False) (fun i => i = 102 ∨ i = 103 ∨ i = 104 ∨ i = 105) σ q) := by
  unfold wp_tr_weigh
  have b1 := wt_bd n
  have b2 := wt_bd x1
  have b3 := wt_bd x2
  refine wt_T_bi (wq_tx_needOf n hn x1 x2 σ) (fun q4 h5 => ?_)
  have e6 := h5
  rw [e6]
  have b7 := wt_bd q4.1
  refine wt_T_bi (wq_sk_reach n hn 40 x2 q4.1 σ) (fun q8 h9 => ?_)
  have e10 := h9
  rw [e10]
  refine wt_T_bi (wq_tr_reachWithoutLeast n hn x2 q4.1 σ) (fun q11 h12 => ?_)
  have e13 := h12
  rw [e13]
  have b14 := wt_bd q8.1
  refine wt_T_bi (wq_ap_put n hn 102 x2 q8.1 σ) (fun q15 h16 => ?_)
  have f17 := h16
  have b18 := wt_bd q11.1
  refine wt_T_bi (wq_ap_put n hn 103 x2 q11.1 q15) (fun q19 h20 => ?_)
  have f21 := h20
  have b22 := wt_bd q15.1
  have k23 : (1 : Int32).toInt = 1 := by decide
  obtain ⟨j24, j24a, j24b⟩ := wt_subI q15.1 (1 : Int32)
  refine wt_T_bi (wq_sk_reach n hn 40 x2 (q15.1 - (1 : Int32)) q19) (fun q25 h26 => ?_)
  have e27 := h26
  rw [e27]
  have b28 := wt_bd q25.1
  have b29 := wt_bd x3
  refine wt_T_bi (wq_tr_joined n hn q8.1 q25.1 x3 q19) (fun q30 h31 => ?_)
  have e32 := h31
  rw [e32]
  have b33 := wt_bd q30.1
  refine wt_T_bi (wq_ap_put n hn 104 x2 q30.1 q19) (fun q34 h35 => ?_)
  have f36 := h35
  refine wt_T_bi (wq_tr_reachWithoutLeast n hn x2 (q15.1 - (1 : Int32)) q34) (fun q37 h38 => ?_)
  have e39 := h38
  rw [e39]
  have b40 := wt_bd q37.1
  refine wt_T_bi (wq_tr_joined n hn q11.1 q37.1 x3 q34) (fun q41 h42 => ?_)
  have e43 := h42
  rw [e43]
  have b44 := wt_bd q41.1
  refine wt_T_bi (wq_ap_put n hn 105 x2 q41.1 q34) (fun q45 h46 => ?_)
  have f47 := h46
  refine wt_T_some ?_
  exact (wt_fr.tr (wt_fr.tr (wt_fr.tr (wt_fr.tr wt_fr.rf f17 (fun i k h => h.elim) (fun i h => by (try dsimp only at h); exact Or.inl (by omega))) f21 (fun i k h => h.elim) (fun i h => by (try dsimp only at h); exact Or.inr (Or.inl (by omega)))) f36 (fun i k h => h.elim) (fun i h => by (try dsimp only at h); exact Or.inr (Or.inr (Or.inl (by omega))))) f47 (fun i k h => h.elim) (fun i h => by (try dsimp only at h); exact Or.inr (Or.inr (Or.inr ((by omega))))))
set_option maxRecDepth 100000 in
set_option maxHeartbeats 4000000 in
theorem wq_tr_bestCast (n : Nat) (hn : 4294967297 < n) (x1 : Int32) (x2 : Int32) (σ : wt_St) : wt_T (wp_tr_bestCast n x1 x2 σ) (fun q => wt_fr (fun i k => False) (fun i => i = 102 ∨ i = 103 ∨ i = 104 ∨ i = 105) σ q.2) := by
  unfold wp_tr_bestCast
  have k6 : (0 : Int32).toInt = 0 := by decide
  refine wt_T_it (fun s : Int32 × wt_St => wt_fr (fun i k => False) (fun i => i = 102 ∨ i = 103 ∨ i = 104 ∨ i = 105) σ s.2 ∧ 0 ≤ (s.1).toInt) (fun s : Int32 × wt_St => ((26 : Int32).toInt - s.1.toInt + 0).toNat) (fun K1 s2 I3 hK1 => ?_) _ _ ?_ ?_
  · skip
    obtain ⟨l4, l5⟩ := I3
    unfold wp_tr_bestCast_B2
    have k7 : (26 : Int32).toInt = 26 := by decide
    have b8 := wt_bd s2.1
    refine wt_T_if (fun h9 => ?_) (fun h9 => ?_)
    · skip
      have c10 := wt_cle h9
      have b11 := wt_bd n
      have k12 : (-1 : Int32).toInt = -1 := by decide
      refine wt_T_bi (wq_tr_leastOf n hn (-1 : Int32) (-1 : Int32) s2.2) (fun q13 h14 => ?_)
      have e15 := h14
      rw [e15]
      have b21 := wt_bd q13.1
      refine wt_T_it (fun s : Int32 × Int32 × Int32 × wt_St => s.2.2.2 = s2.2 ∧ 0 ≤ (s.2.2.1).toInt) (fun s : Int32 × Int32 × Int32 × wt_St => ((26 : Int32).toInt - s.2.2.1.toInt + 0).toNat) (fun K16 s17 I18 hK16 => ?_) _ _ ?_ ?_
      · skip
        obtain ⟨l19, l20⟩ := I18
        unfold wp_tr_bestCast_B34
        rw [l19]
        have b22 := wt_bd s17.2.2.1
        refine wt_T_if (fun h23 => ?_) (fun h23 => ?_)
        · skip
          have c24 := wt_cle h23
          refine wt_T_some ?_
          exact (wt_fr.tr wt_fr.rf l4 (fun i k h => h.elim) (fun i h => by (try dsimp only at h); rcases h with h | h | h | h; exact Or.inl (by omega); exact Or.inr (Or.inl (by omega)); exact Or.inr (Or.inr (Or.inl (by omega))); exact Or.inr (Or.inr (Or.inr ((by omega))))))
        · skip
          have c25 := wt_ncle h23
          refine wt_T_bi (wq_tr_leastOf n hn (-1 : Int32) s17.2.2.1 s2.2) (fun q26 h27 => ?_)
          have e28 := h27
          rw [e28]
          have b29 := wt_bd q26.1
          have b30 := wt_bd s17.1
          refine wt_T_if (fun h31 => ?_) (fun h31 => ?_)
          · skip
            have c32 := wt_cle h31
            unfold wp_tr_bestCast_B63
            have b33 := wt_bd s17.2.1
            have k34 : (1 : Int32).toInt = 1 := by decide
            obtain ⟨j35, j35a, j35b⟩ := wt_addI s17.2.2.1 (1 : Int32)
            refine hK16 _ ⟨rfl, (by (try dsimp only); omega)⟩ ?_
            (try dsimp only); omega
          · skip
            have c36 := wt_ncle h31
            unfold wp_tr_bestCast_B63
            have k37 : (1 : Int32).toInt = 1 := by decide
            obtain ⟨j38, j38a, j38b⟩ := wt_addI s17.2.2.1 (1 : Int32)
            refine hK16 _ ⟨rfl, (by (try dsimp only); omega)⟩ ?_
            (try dsimp only); omega
      · skip
        exact ⟨rfl, (by (try dsimp only); omega)⟩
      · skip
        (try dsimp only); omega
    · skip
      have c39 := wt_ncle h9
      have b40 := wt_bd n
      have b41 := wt_bd x1
      have b42 := wt_bd x2
      refine wt_T_bi (wq_tr_weigh n hn x1 s2.1 x2 s2.2) (fun q43 h44 => ?_)
      have f45 := h44
      have k46 : (1 : Int32).toInt = 1 := by decide
      obtain ⟨j47, j47a, j47b⟩ := wt_addI s2.1 (1 : Int32)
      refine hK1 _ ⟨(wt_fr.tr (wt_fr.tr wt_fr.rf l4 (fun i k h => h.elim) (fun i h => by (try dsimp only at h); rcases h with h | h | h | h; exact Or.inl (by omega); exact Or.inr (Or.inl (by omega)); exact Or.inr (Or.inr (Or.inl (by omega))); exact Or.inr (Or.inr (Or.inr ((by omega)))))) f45 (fun i k h => h.elim) (fun i h => by (try dsimp only at h); rcases h with h | h | h | h; exact Or.inl (by omega); exact Or.inr (Or.inl (by omega)); exact Or.inr (Or.inr (Or.inl (by omega))); exact Or.inr (Or.inr (Or.inr ((by omega)))))), (by (try dsimp only); omega)⟩ ?_
      (try dsimp only); omega
  · skip
    have k48 : (26 : Int32).toInt = 26 := by decide
    exact ⟨wt_fr.rf, (by (try dsimp only); omega)⟩
  · skip
    have k49 : (26 : Int32).toInt = 26 := by decide
    (try dsimp only); omega
set_option maxRecDepth 100000 in
set_option maxHeartbeats 4000000 in
theorem wq_ap_copyRow (n : Nat) (hn : 4294967297 < n) (a0 : Nat) (a1 : Nat) (σ : wt_St) : wt_T (wp_ap_copyRow n a0 a1 σ) (fun q => wt_fr (fun i k => False) (fun i => i = a1) σ q) := by
  unfold wp_ap_copyRow
  have k6 : (0 : Int32).toInt = 0 := by decide
  refine wt_T_it (fun s : Int32 × wt_St => wt_fr (fun i k => False) (fun i => i = a1) σ s.2 ∧ 0 ≤ (s.1).toInt) (fun s : Int32 × wt_St => ((nI (wt_ln a0)).toInt - s.1.toInt + 0).toNat) (fun K1 s2 I3 hK1 => ?_) _ _ ?_ ?_
  · skip
    obtain ⟨l4, l5⟩ := I3
    unfold wp_ap_copyRow_B2
    have b7 := wt_lnI a0
    have b8 := wt_bd s2.1
    refine wt_T_if (fun h9 => ?_) (fun h9 => ?_)
    · skip
      have c10 := wt_cle h9
      refine wt_T_some ?_
      exact (wt_fr.tr wt_fr.rf l4 (fun i k h => h.elim) (fun i h => by (try dsimp only at h); exact (by omega)))
    · skip
      have c11 := wt_ncle h9
      have b12 := wt_lnI a1
      refine wt_T_if (fun h13 => ?_) (fun h13 => ?_)
      · skip
        have c14 := wt_cle h13
        refine wt_T_some ?_
        exact (wt_fr.tr wt_fr.rf l4 (fun i k h => h.elim) (fun i h => by (try dsimp only at h); exact (by omega)))
      · skip
        have c15 := wt_ncle h13
        have b16 := wt_ln_bd a0
        refine wt_T_gd (wt_ix (by omega) (by omega)) ?_
        have b17 := wt_ln_bd a1
        refine wt_T_gd (wt_ix (by omega) (by omega)) ?_
        obtain ⟨σ18, eσ18⟩ : ∃ z : wt_St, z = wt_sa s2.2 a1 (Int32.toNatClampNeg s2.1) (wt_ga s2.2 a0 (Int32.toNatClampNeg s2.1)) := ⟨_, rfl⟩
        rw [← eσ18]
        have fσ18 := wt_fr_sa eσ18
        have vσ18 := wt_ceq (wt_v_sa eσ18)
        have b19 := wt_tn s2.1
        have b20 := wt_bd (wt_ga s2.2 a0 (Int32.toNatClampNeg s2.1))
        have k21 : (1 : Int32).toInt = 1 := by decide
        obtain ⟨j22, j22a, j22b⟩ := wt_addI s2.1 (1 : Int32)
        refine hK1 _ ⟨(wt_fr.tr (wt_fr.tr wt_fr.rf l4 (fun i k h => h.elim) (fun i h => by (try dsimp only at h); exact (by omega))) fσ18 (fun i k h => h.elim) (fun i h => by (try dsimp only at h); exact (by omega))), (by (try dsimp only); omega)⟩ ?_
        (try dsimp only); omega
  · skip
    have b23 := wt_lnI a0
    exact ⟨wt_fr.rf, (by (try dsimp only); omega)⟩
  · skip
    have b24 := wt_lnI a0
    (try dsimp only); omega
set_option maxRecDepth 100000 in
set_option maxHeartbeats 4000000 in
theorem wq_ap_count (n : Nat) (hn : 4294967297 < n) (x1 : Int32) (σ : wt_St) : wt_T (wp_ap_count n x1 σ) (fun q => q.2 = σ) := by
  unfold wp_ap_count
  have b1 := wt_bd x1
  have k2 : (0 : Int32).toInt = 0 := by decide
  refine wt_T_if (fun h3 => ?_) (fun h3 => ?_)
  · skip
    have c4 := wt_ceq h3
    refine wt_T_some ?_
    exact rfl
  · skip
    have c5 := wt_nceq h3
    have k6 : (1 : Int32).toInt = 1 := by decide
    refine wt_T_if (fun h7 => ?_) (fun h7 => ?_)
    · skip
      have c8 := wt_ceq h7
      refine wt_T_some ?_
      exact rfl
    · skip
      have c9 := wt_nceq h7
      refine wt_T_some ?_
      exact rfl
set_option maxRecDepth 100000 in
set_option maxHeartbeats 4000000 in
theorem wq_tg_has (n : Nat) (hn : 4294967297 < n) (t0 : Nat) (x1 : Int32) (σ : wt_St) : wt_T (wp_tg_has n t0 x1 σ) (fun q => q.2 = σ) := by
  unfold wp_tg_has
  have b1 := wt_bd x1
  have k2 : (0 : Int32).toInt = 0 := by decide
  refine wt_T_if (fun h3 => ?_) (fun h3 => ?_)
  · skip
    have c4 := wt_clt h3
    refine wt_T_some ?_
    exact rfl
  · skip
    have c5 := wt_ncl h3
    have b6 := wt_bd (wt_gf σ t0 6)
    refine wt_T_if (fun h7 => ?_) (fun h7 => ?_)
    · skip
      have c8 := wt_cle h7
      refine wt_T_some ?_
      exact rfl
    · skip
      have c9 := wt_ncle h7
      refine wt_T_some ?_
      exact rfl
set_option maxRecDepth 100000 in
set_option maxHeartbeats 4000000 in
theorem wq_sk_lacking (n : Nat) (hn : 4294967297 < n) (a1 : Nat) (a3 : Nat) (x2 : Int32) (σ : wt_St) : wt_T (wp_sk_lacking n a1 a3 x2 σ) (fun q => q.2 = σ) := by
  unfold wp_sk_lacking
  have k6 : (0 : Int32).toInt = 0 := by decide
  refine wt_T_it (fun s : Int32 × wt_St => s.2 = σ ∧ 0 ≤ (s.1).toInt) (fun s : Int32 × wt_St => ((nI (wt_ln a1)).toInt - s.1.toInt + 0).toNat) (fun K1 s2 I3 hK1 => ?_) _ _ ?_ ?_
  · skip
    obtain ⟨l4, l5⟩ := I3
    unfold wp_sk_lacking_B3
    rw [l4]
    have b7 := wt_lnI a1
    have b8 := wt_bd s2.1
    refine wt_T_if (fun h9 => ?_) (fun h9 => ?_)
    · skip
      have c10 := wt_cle h9
      refine wt_T_some ?_
      exact rfl
    · skip
      have c11 := wt_ncle h9
      have b12 := wt_ln_bd a1
      refine wt_T_gd (wt_ix (by omega) (by omega)) ?_
      have b13 := wt_tn s2.1
      have b14 := wt_bd (wt_ga σ a1 (Int32.toNatClampNeg s2.1))
      refine wt_T_if (fun h15 => ?_) (fun h15 => ?_)
      · skip
        have c16 := wt_cle h15
        unfold wp_sk_lacking_B35
        have k17 : (1 : Int32).toInt = 1 := by decide
        obtain ⟨j18, j18a, j18b⟩ := wt_addI s2.1 (1 : Int32)
        refine hK1 _ ⟨rfl, (by (try dsimp only); omega)⟩ ?_
        (try dsimp only); omega
      · skip
        have c19 := wt_ncle h15
        have b20 := wt_bd n
        have b21 := wt_bd x2
        refine wt_T_bi (wq_sk_ready n hn a3 s2.1 x2 σ) (fun q22 h23 => ?_)
        have e24 := h23
        rw [e24]
        refine wt_T_gd (wt_ix (by omega) (by omega)) ?_
        have b25 := wt_bd q22.1
        refine wt_T_if (fun h26 => ?_) (fun h26 => ?_)
        · skip
          have c27 := wt_cle h26
          unfold wp_sk_lacking_B35
          have k28 : (1 : Int32).toInt = 1 := by decide
          obtain ⟨j29, j29a, j29b⟩ := wt_addI s2.1 (1 : Int32)
          refine hK1 _ ⟨rfl, (by (try dsimp only); omega)⟩ ?_
          (try dsimp only); omega
        · skip
          have c30 := wt_ncle h26
          refine wt_T_some ?_
          exact rfl
  · skip
    have b31 := wt_lnI a1
    exact ⟨rfl, (by (try dsimp only); omega)⟩
  · skip
    have b32 := wt_lnI a1
    (try dsimp only); omega
set_option maxRecDepth 100000 in
set_option maxHeartbeats 4000000 in
theorem wq_sk_comesFirst (n : Nat) (hn : 4294967297 < n) (x1 : Int32) (x2 : Int32) (σ : wt_St) : wt_T (wp_sk_comesFirst n x1 x2 σ) (fun q => q.2 = σ) := by
  unfold wp_sk_comesFirst
  have b1 := wt_bd (wt_gf σ 39 9)
  have k2 : (0 : Int32).toInt = 0 := by decide
  refine wt_T_if (fun h3 => ?_) (fun h3 => ?_)
  · skip
    have c4 := wt_ceq h3
    have b5 := wt_bd x2
    have b6 := wt_bd x1
    refine wt_T_if (fun h7 => ?_) (fun h7 => ?_)
    · skip
      have c8 := wt_cle h7
      refine wt_T_some ?_
      exact rfl
    · skip
      have c9 := wt_ncle h7
      refine wt_T_some ?_
      exact rfl
  · skip
    have c10 := wt_nceq h3
    have b11 := wt_bd x1
    have b12 := wt_bd x2
    refine wt_T_if (fun h13 => ?_) (fun h13 => ?_)
    · skip
      have c14 := wt_cle h13
      refine wt_T_some ?_
      exact rfl
    · skip
      have c15 := wt_ncle h13
      refine wt_T_some ?_
      exact rfl
set_option maxRecDepth 100000 in
set_option maxHeartbeats 4000000 in
theorem wq_sk_choose (n : Nat) (hn : 4294967297 < n) (a3 : Nat) (x1 : Int32) (x2 : Int32) (x4 : Int32) (σ : wt_St) : wt_T (wp_sk_choose n a3 x1 x2 x4 σ) (fun q => q.2 = σ) := by
  unfold wp_sk_choose
  have k6 : (-1 : Int32).toInt = -1 := by decide
  have k7 : (0 : Int32).toInt = 0 := by decide
  refine wt_T_it (fun s : Int32 × Int32 × wt_St => s.2.2 = σ ∧ 0 ≤ (s.2.1).toInt) (fun s : Int32 × Int32 × wt_St => ((wt_lk 5 x1 s.2.2).toInt - s.2.1.toInt + 0).toNat) (fun K1 s2 I3 hK1 => ?_) _ _ ?_ ?_
  · skip
    obtain ⟨l4, l5⟩ := I3
    unfold wp_sk_choose_B6
    rw [l4]
    have b8 := wt_bd (wt_lk 5 x1 σ)
    have b9 := wt_bd s2.2.1
    have b10 := wt_bd n
    have b11 := wt_bd x1
    refine wt_T_bi (wq_sk_pieces n hn x1 σ) (fun q12 h13 => ?_)
    obtain ⟨e14, e14v⟩ := h13
    have e15 := wt_ceq e14v
    have b16 := wt_bd q12.1
    rw [e14]
    refine wt_T_if (fun h17 => ?_) (fun h17 => ?_)
    · skip
      have c18 := wt_cle h17
      refine wt_T_some ?_
      exact rfl
    · skip
      have c19 := wt_ncle h17
      have k20 : (12 : Int32).toInt = 12 := by decide
      obtain ⟨j21, j21a, j21b⟩ := wt_mulI x1 (12 : Int32)
      obtain ⟨j22, j22a, j22b⟩ := wt_addI (x1 * (12 : Int32)) s2.2.1
      refine wt_T_bi (wq_ap_look n hn a3 ((x1 * (12 : Int32)) + s2.2.1) σ) (fun q23 h24 => ?_)
      obtain ⟨e25, e25v⟩ := h24
      have e26 := wt_ceq e25v
      have b27 := wt_bd (wt_lk a3 ((x1 * (12 : Int32)) + s2.2.1) σ)
      have b28 := wt_bd q23.1
      rw [e25]
      have b29 := wt_bd x4
      have k30 : (31 : Int32).toInt = 31 := by decide
      have b31 := wt_bd (s2.2.1 &&& 31)
      have b32 := wt_bd (x4 >>> (s2.2.1 &&& 31))
      have k33 : (1 : Int32).toInt = 1 := by decide
      have b34 := wt_bd ((x4 >>> (s2.2.1 &&& 31)) &&& (1 : Int32))
      refine wt_T_if (fun h35 => ?_) (fun h35 => ?_)
      · skip
        have c36 := wt_ceq h35
        refine wt_T_bi (wq_sk_lies n hn ((x1 * (12 : Int32)) + s2.2.1) σ) (fun q37 h38 => ?_)
        have e39 := h38
        rw [e39]
        have b40 := wt_bd q37.1
        refine wt_T_if (fun h41 => ?_) (fun h41 => ?_)
        · skip
          have c42 := wt_ceq h41
          unfold wp_sk_choose_B83
          have b43 := wt_bd s2.1
          obtain ⟨j44, j44a, j44b⟩ := wt_addI s2.2.1 (1 : Int32)
          refine hK1 _ ⟨rfl, (by (try dsimp only); omega)⟩ ?_
          (try dsimp only); omega
        · skip
          have c45 := wt_nceq h41
          have b46 := wt_bd x2
          refine wt_T_if (fun h47 => ?_) (fun h47 => ?_)
          · skip
            have c48 := wt_clt h47
            unfold wp_sk_choose_B83
            have b49 := wt_bd s2.1
            obtain ⟨j50, j50a, j50b⟩ := wt_addI s2.2.1 (1 : Int32)
            refine hK1 _ ⟨rfl, (by (try dsimp only); omega)⟩ ?_
            (try dsimp only); omega
          · skip
            have c51 := wt_ncl h47
            have b52 := wt_bd s2.1
            refine wt_T_if (fun h53 => ?_) (fun h53 => ?_)
            · skip
              have c54 := wt_ceq h53
              unfold wp_sk_choose_B79
              unfold wp_sk_choose_B83
              obtain ⟨j55, j55a, j55b⟩ := wt_addI s2.2.1 (1 : Int32)
              refine hK1 _ ⟨rfl, (by (try dsimp only); omega)⟩ ?_
              (try dsimp only); omega
            · skip
              have c56 := wt_nceq h53
              refine wt_T_bi (wq_ap_look n hn a3 s2.1 σ) (fun q57 h58 => ?_)
              obtain ⟨e59, e59v⟩ := h58
              have e60 := wt_ceq e59v
              have b61 := wt_bd (wt_lk a3 s2.1 σ)
              have b62 := wt_bd q57.1
              rw [e59]
              refine wt_T_bi (wq_sk_comesFirst n hn q23.1 q57.1 σ) (fun q63 h64 => ?_)
              have e65 := h64
              rw [e65]
              have b66 := wt_bd q63.1
              refine wt_T_if (fun h67 => ?_) (fun h67 => ?_)
              · skip
                have c68 := wt_ceq h67
                unfold wp_sk_choose_B83
                obtain ⟨j69, j69a, j69b⟩ := wt_addI s2.2.1 (1 : Int32)
                refine hK1 _ ⟨rfl, (by (try dsimp only); omega)⟩ ?_
                (try dsimp only); omega
              · skip
                have c70 := wt_nceq h67
                unfold wp_sk_choose_B79
                unfold wp_sk_choose_B83
                obtain ⟨j71, j71a, j71b⟩ := wt_addI s2.2.1 (1 : Int32)
                refine hK1 _ ⟨rfl, (by (try dsimp only); omega)⟩ ?_
                (try dsimp only); omega
      · skip
        have c72 := wt_nceq h35
        unfold wp_sk_choose_B83
        have b73 := wt_bd s2.1
        obtain ⟨j74, j74a, j74b⟩ := wt_addI s2.2.1 (1 : Int32)
        refine hK1 _ ⟨rfl, (by (try dsimp only); omega)⟩ ?_
        (try dsimp only); omega
  · skip
    have b75 := wt_bd (wt_lk 5 x1 σ)
    exact ⟨rfl, (by (try dsimp only); omega)⟩
  · skip
    have b76 := wt_bd (wt_lk 5 x1 σ)
    (try dsimp only); omega
set_option maxRecDepth 100000 in
set_option maxHeartbeats 4000000 in
theorem wq_sk_wear (n : Nat) (hn : 4294967297 < n) (a1 : Nat) (a3 : Nat) (x2 : Int32) (σ : wt_St) (h13 : a1 ≠ a3) : wt_T (wp_sk_wear n a1 a3 x2 σ) (fun q => wt_fr (fun i k => False) (fun i => i = a3) σ q) := by
  unfold wp_sk_wear
  have k6 : (0 : Int32).toInt = 0 := by decide
  refine wt_T_it (fun s : Int32 × wt_St => wt_fr (fun i k => False) (fun i => i = a3) σ s.2 ∧ 0 ≤ (s.1).toInt) (fun s : Int32 × wt_St => ((nI (wt_ln a1)).toInt - s.1.toInt + 0).toNat) (fun K1 s2 I3 hK1 => ?_) _ _ ?_ ?_
  · skip
    obtain ⟨l4, l5⟩ := I3
    unfold wp_sk_wear_B3
    have b7 := wt_lnI a1
    have b8 := wt_bd s2.1
    refine wt_T_if (fun h9 => ?_) (fun h9 => ?_)
    · skip
      have c10 := wt_cle h9
      refine wt_T_some ?_
      exact (wt_fr.tr wt_fr.rf l4 (fun i k h => h.elim) (fun i h => by (try dsimp only at h); exact (by omega)))
    · skip
      have c11 := wt_ncle h9
      refine wt_T_it (fun s : Int32 × Int32 × wt_St => wt_fr (fun i k => False) (fun i => i = a3) s2.2 s.2.2 ∧ 0 ≤ (s.2.1).toInt) (fun s : Int32 × Int32 × wt_St => ((wt_ga s.2.2 a1 (Int32.toNatClampNeg s2.1)).toInt - s.2.1.toInt + 0).toNat) (fun K12 s13 I14 hK12 => ?_) _ _ ?_ ?_
      · skip
        obtain ⟨l15, l16⟩ := I14
        unfold wp_sk_wear_B16
        have b17 := wt_bd (Int32ClampNeg s2.1)
        have b18 := wt_bd (wt_ga s13.2.2 a1 (Int32ClampNeg s2.1))
        have t19 : (wt_ga s13.2.2 a1 (Int32ClampNeg s2.1)).toInt = (wt_ga s2.2 a1 (Int32ClampNeg s2.1)).toInt := congrArg Int32.toInt (l15.2 a1 (by (try dsimp only); omega) (Int32ClampNeg s2.1))
        have b20 := wt_bd (wt_ga s2.2 a1 (Int32ClampNeg s2.1))
        have t21 : (wt_ga s2.2 a1 (Int32ClampNeg s2.1)).toInt = (wt_ga σ a1 (Int32ClampNeg s2.1)).toInt := congrArg Int32.toInt (l4.2 a1 (by (try dsimp only); omega) (Int32ClampNeg s2.1))
        have b22 := wt_bd (wt_ga σ a1 (Int32ClampNeg s2.1))
        have b23 := wt_bd s13.2.1
        have b24 := wt_ln_bd a1
        refine wt_T_gd (wt_ix (by omega) (by omega)) ?_
        have b25 := wt_tn s2.1
        have b26 := wt_bd (wt_ga s13.2.2 a1 (Int32.toNatClampNeg s2.1))
        have t27 : (wt_ga s13.2.2 a1 (Int32.toNatClampNeg s2.1)).toInt = (wt_ga s2.2 a1 (Int32.toNatClampNeg s2.1)).toInt := congrArg Int32.toInt (l15.2 a1 (by (try dsimp only); omega) (Int32.toNatClampNeg s2.1))
        have b28 := wt_bd (wt_ga s2.2 a1 (Int32.toNatClampNeg s2.1))
        have t29 : (wt_ga s2.2 a1 (Int32.toNatClampNeg s2.1)).toInt = (wt_ga σ a1 (Int32.toNatClampNeg s2.1)).toInt := congrArg Int32.toInt (l4.2 a1 (by (try dsimp only); omega) (Int32.toNatClampNeg s2.1))
        have b30 := wt_bd (wt_ga σ a1 (Int32.toNatClampNeg s2.1))
        refine wt_T_if (fun h31 => ?_) (fun h31 => ?_)
        · skip
          have c32 := wt_cle h31
          have k33 : (1 : Int32).toInt = 1 := by decide
          obtain ⟨j34, j34a, j34b⟩ := wt_addI s2.1 (1 : Int32)
          refine hK1 _ ⟨(wt_fr.tr (wt_fr.tr wt_fr.rf l4 (fun i k h => h.elim) (fun i h => by (try dsimp only at h); exact (by omega))) l15 (fun i k h => h.elim) (fun i h => by (try dsimp only at h); exact (by omega))), (by (try dsimp only); omega)⟩ ?_
          (try dsimp only); omega
        · skip
          have c35 := wt_ncle h31
          have b36 := wt_bd n
          have b37 := wt_bd x2
          have b38 := wt_bd s13.1
          refine wt_T_bi (wq_sk_choose n hn a3 s2.1 x2 s13.1 s13.2.2) (fun q39 h40 => ?_)
          have e41 := h40
          rw [e41]
          have b42 := wt_bd q39.1
          have k43 : (-1 : Int32).toInt = -1 := by decide
          refine wt_T_if (fun h44 => ?_) (fun h44 => ?_)
          · skip
            have c45 := wt_ceq h44
            refine wt_T_some ?_
            exact (wt_fr.tr (wt_fr.tr wt_fr.rf l4 (fun i k h => h.elim) (fun i h => by (try dsimp only at h); exact (by omega))) l15 (fun i k h => h.elim) (fun i h => by (try dsimp only at h); exact (by omega)))
          · skip
            have c46 := wt_nceq h44
            refine wt_T_bi (wq_ap_look n hn a3 q39.1 s13.2.2) (fun q47 h48 => ?_)
            obtain ⟨e49, e49v⟩ := h48
            have e50 := wt_ceq e49v
            have b51 := wt_bd (wt_lk a3 q39.1 s13.2.2)
            have b52 := wt_bd q47.1
            rw [e49]
            obtain ⟨j53, j53a, j53b⟩ := wt_subI q47.1 x2
            refine wt_T_bi (wq_ap_put n hn a3 q39.1 (q47.1 - x2) s13.2.2) (fun q54 h55 => ?_)
            have f56 := h55
            have k57 : (1 : Int32).toInt = 1 := by decide
            have k58 : (12 : Int32).toInt = 12 := by decide
            obtain ⟨j59, j59a, j59b⟩ := wt_mulI s2.1 (12 : Int32)
            obtain ⟨j60, j60a, j60b⟩ := wt_subI q39.1 (s2.1 * (12 : Int32))
            have k61 : (31 : Int32).toInt = 31 := by decide
            have b62 := wt_bd ((q39.1 - (s2.1 * (12 : Int32))) &&& 31)
            have b63 := wt_bd ((1 : Int32) <<< ((q39.1 - (s2.1 * (12 : Int32))) &&& 31))
            have b64 := wt_bd (s13.1 ||| ((1 : Int32) <<< ((q39.1 - (s2.1 * (12 : Int32))) &&& 31)))
            obtain ⟨j65, j65a, j65b⟩ := wt_addI s13.2.1 (1 : Int32)
            have b66 := wt_bd (wt_ga q54 a1 (Int32ClampNeg s2.1))
            have t67 : (wt_ga q54 a1 (Int32ClampNeg s2.1)).toInt = (wt_ga s13.2.2 a1 (Int32ClampNeg s2.1)).toInt := congrArg Int32.toInt (f56.2 a1 (by (try dsimp only); omega) (Int32ClampNeg s2.1))
            refine hK12 _ ⟨(wt_fr.tr (wt_fr.tr wt_fr.rf l15 (fun i k h => h.elim) (fun i h => by (try dsimp only at h); exact (by omega))) f56 (fun i k h => h.elim) (fun i h => by (try dsimp only at h); exact (by omega))), (by (try dsimp only); omega)⟩ ?_
            (try dsimp only); omega
      · skip
        have b68 := wt_bd (Int32ClampNeg s2.1)
        have b69 := wt_bd (wt_ga s2.2 a1 (Int32ClampNeg s2.1))
        have t70 : (wt_ga s2.2 a1 (Int32ClampNeg s2.1)).toInt = (wt_ga σ a1 (Int32ClampNeg s2.1)).toInt := congrArg Int32.toInt (l4.2 a1 (by (try dsimp only); omega) (Int32ClampNeg s2.1))
        have b71 := wt_bd (wt_ga σ a1 (Int32ClampNeg s2.1))
        exact ⟨wt_fr.rf, (by (try dsimp only); omega)⟩
      · skip
        have b72 := wt_bd (Int32ClampNeg s2.1)
        have b73 := wt_bd (wt_ga s2.2 a1 (Int32ClampNeg s2.1))
        have t74 : (wt_ga s2.2 a1 (Int32ClampNeg s2.1)).toInt = (wt_ga σ a1 (Int32ClampNeg s2.1)).toInt := congrArg Int32.toInt (l4.2 a1 (by (try dsimp only); omega) (Int32ClampNeg s2.1))
        have b75 := wt_bd (wt_ga σ a1 (Int32ClampNeg s2.1))
        (try dsimp only); omega
  · skip
    have b76 := wt_lnI a1
    exact ⟨wt_fr.rf, (by (try dsimp only); omega)⟩
  · skip
    have b77 := wt_lnI a1
    (try dsimp only); omega
set_option maxRecDepth 100000 in
set_option maxHeartbeats 4000000 in
theorem wq_wk_printOne (n : Nat) (hn : 4294967297 < n) (a2 : Nat) (x1 : Int32) (σ : wt_St) (h2 : a2 ≠ 100) : wt_T (wp_wk_printOne n a2 x1 σ) (fun q => wt_fr (fun i k => False) (fun i => i = 100 ∨ i = a2) σ q.2) := by
  unfold wp_wk_printOne
  have b1 := wt_bd n
  have b2 := wt_bd x1
  refine wt_T_bi (wq_ap_look n hn 45 x1 σ) (fun q3 h4 => ?_)
  obtain ⟨e5, e5v⟩ := h4
  have e6 := wt_ceq e5v
  have b7 := wt_bd (wt_lk 45 x1 σ)
  have b8 := wt_bd q3.1
  rw [e5]
  refine wt_T_bi (wq_ap_look n hn 44 x1 σ) (fun q9 h10 => ?_)
  obtain ⟨e11, e11v⟩ := h10
  have e12 := wt_ceq e11v
  have b13 := wt_bd (wt_lk 44 x1 σ)
  have b14 := wt_bd q9.1
  rw [e11]
  refine wt_T_bi (wq_tx_spell n hn 100 q9.1 σ) (fun q15 h16 => ?_)
  have f17 := h16
  have b18 := wt_bd q15.1
  refine wt_T_bi (wq_sk_lacking n hn 100 a2 q15.1 q15) (fun q19 h20 => ?_)
  have e21 := h20
  rw [e21]
  have b22 := wt_bd q19.1
  have k23 : (-1 : Int32).toInt = -1 := by decide
  refine wt_T_if (fun h24 => ?_) (fun h24 => ?_)
  · skip
    have c25 := wt_ceq h24
    refine wt_T_bi (wq_sk_wear n hn 100 a2 q15.1 q15 (by omega)) (fun q26 h27 => ?_)
    have f28 := h27
    refine wt_T_some ?_
    exact (wt_fr.tr (wt_fr.tr wt_fr.rf f17 (fun i k h => h.elim) (fun i h => by (try dsimp only at h); exact Or.inl (by omega))) f28 (fun i k h => h.elim) (fun i h => by (try dsimp only at h); exact Or.inr ((by omega))))
  · skip
    have c29 := wt_nceq h24
    refine wt_T_some ?_
    exact (wt_fr.tr wt_fr.rf f17 (fun i k h => h.elim) (fun i h => by (try dsimp only at h); exact Or.inl (by omega)))
set_option maxRecDepth 100000 in
set_option maxHeartbeats 4000000 in
theorem wq_wk_printNext (n : Nat) (hn : 4294967297 < n) (x1 : Int32) (σ : wt_St) : wt_T (wp_wk_printNext n x1 σ) (fun q => wt_fr (fun i k => (i = 86 ∧ k = 8) ∨ (i = 86 ∧ k = 9)) (fun i => i = 100 ∨ i = 98) σ q) := by
  unfold wp_wk_printNext
  have b1 := wt_bd n
  have b2 := wt_bd x1
  refine wt_T_bi (wq_wk_printOne n hn 98 x1 σ (by omega)) (fun q3 h4 => ?_)
  have f5 := h4
  have b6 := wt_bd q3.1
  have k7 : (0 : Int32).toInt = 0 := by decide
  refine wt_T_if (fun h8 => ?_) (fun h8 => ?_)
  · skip
    have c9 := wt_ceq h8
    refine wt_T_some ?_
    exact (wt_fr.tr wt_fr.rf f5 (fun i k h => h.elim) (fun i h => by (try dsimp only at h); rcases h with h | h; exact Or.inl (by omega); exact Or.inr ((by omega))))
  · skip
    have c10 := wt_nceq h8
    refine wt_T_bi (wq_ap_look n hn 47 x1 q3.2) (fun q11 h12 => ?_)
    obtain ⟨e13, e13v⟩ := h12
    have e14 := wt_ceq e13v
    have b15 := wt_bd (wt_lk 47 x1 q3.2)
    have t16 : (wt_lk 47 x1 q3.2).toInt = (wt_lk 47 x1 σ).toInt := congrArg Int32.toInt (wt_lk_fr (f5.2 47 (by (try dsimp only); omega)))
    have b17 := wt_bd (wt_lk 47 x1 σ)
    have b18 := wt_bd q11.1
    rw [e13]
    obtain ⟨σ19, eσ19⟩ : ∃ z : wt_St, z = wt_sf q3.2 86 8 ((wt_gf q3.2 86 8) + q11.1) := ⟨_, rfl⟩
    rw [← eσ19]
    have fσ19 := wt_fr_sf eσ19
    have vσ19 := wt_ceq (wt_v_sf eσ19)
    have b20 := wt_bd (wt_gf q3.2 86 8)
    have t21 : (wt_gf q3.2 86 8).toInt = (wt_gf σ 86 8).toInt := congrArg Int32.toInt (f5.1 86 8 (fun z => z))
    have b22 := wt_bd (wt_gf σ 86 8)
    obtain ⟨j23, j23a, j23b⟩ := wt_addI (wt_gf q3.2 86 8) q11.1
    obtain ⟨σ24, eσ24⟩ : ∃ z : wt_St, z = wt_sf σ19 86 9 ((wt_gf σ19 86 9) ||| ((1 : Int32) <<< (x1 &&& 31))) := ⟨_, rfl⟩
    rw [← eσ24]
    have fσ24 := wt_fr_sf eσ24
    have vσ24 := wt_ceq (wt_v_sf eσ24)
    have b25 := wt_bd (wt_gf σ19 86 9)
    have t26 : (wt_gf σ19 86 9).toInt = (wt_gf q3.2 86 9).toInt := congrArg Int32.toInt (fσ19.1 86 9 (by (try dsimp only); omega))
    have b27 := wt_bd (wt_gf q3.2 86 9)
    have t28 : (wt_gf q3.2 86 9).toInt = (wt_gf σ 86 9).toInt := congrArg Int32.toInt (f5.1 86 9 (fun z => z))
    have b29 := wt_bd (wt_gf σ 86 9)
    have k30 : (1 : Int32).toInt = 1 := by decide
    have k31 : (31 : Int32).toInt = 31 := by decide
    have b32 := wt_bd (x1 &&& 31)
    have b33 := wt_bd ((1 : Int32) <<< (x1 &&& 31))
    have b34 := wt_bd ((wt_gf σ19 86 9) ||| ((1 : Int32) <<< (x1 &&& 31)))
    refine wt_T_some ?_
    exact (wt_fr.tr (wt_fr.tr (wt_fr.tr wt_fr.rf f5 (fun i k h => h.elim) (fun i h => by (try dsimp only at h); rcases h with h | h; exact Or.inl (by omega); exact Or.inr ((by omega)))) fσ19 (fun i k h => by (try dsimp only at h); exact Or.inl (by omega)) (fun i h => h.elim)) fσ24 (fun i k h => by (try dsimp only at h); exact Or.inr ((by omega))) (fun i h => h.elim))
set_option maxRecDepth 100000 in
set_option maxHeartbeats 4000000 in
theorem wq_wk_sortByWeek (n : Nat) (hn : 4294967297 < n) (σ : wt_St) : wt_T (wp_wk_sortByWeek n σ) (fun q => wt_fr (fun i k => False) (fun i => i = 99) σ q) := by
  unfold wp_wk_sortByWeek
  have k6 : (0 : Int32).toInt = 0 := by decide
  refine wt_T_it (fun s : Int32 × wt_St => wt_fr (fun i k => False) (fun i => i = 99) σ s.2 ∧ 0 ≤ (s.1).toInt) (fun s : Int32 × wt_St => ((wt_gf s.2 39 8).toInt - s.1.toInt + 0).toNat) (fun K1 s2 I3 hK1 => ?_) _ _ ?_ ?_
  · skip
    obtain ⟨l4, l5⟩ := I3
    unfold wp_wk_sortByWeek_B2
    have b7 := wt_bd (wt_gf s2.2 39 8)
    have t8 : (wt_gf s2.2 39 8).toInt = (wt_gf σ 39 8).toInt := congrArg Int32.toInt (l4.1 39 8 (fun z => z))
    have b9 := wt_bd (wt_gf σ 39 8)
    have b10 := wt_bd s2.1
    refine wt_T_if (fun h11 => ?_) (fun h11 => ?_)
    · skip
      have c12 := wt_cle h11
      refine wt_T_some ?_
      exact (wt_fr.tr wt_fr.rf l4 (fun i k h => h.elim) (fun i h => by (try dsimp only at h); exact (by omega)))
    · skip
      have c13 := wt_ncle h11
      have b14 := wt_bd n
      refine wt_T_bi (wq_ap_look n hn 46 s2.1 s2.2) (fun q15 h16 => ?_)
      obtain ⟨e17, e17v⟩ := h16
      have e18 := wt_ceq e17v
      have b19 := wt_bd (wt_lk 46 s2.1 s2.2)
      have t20 : (wt_lk 46 s2.1 s2.2).toInt = (wt_lk 46 s2.1 σ).toInt := congrArg Int32.toInt (wt_lk_fr (l4.2 46 (by (try dsimp only); omega)))
      have b21 := wt_bd (wt_lk 46 s2.1 σ)
      have b22 := wt_bd q15.1
      rw [e17]
      refine wt_T_it (fun s : Int32 × wt_St => wt_fr (fun i k => False) (fun i => i = 99) s2.2 s.2) (fun s : Int32 × wt_St => (s.1.toInt + 0).toNat) (fun K23 s24 I25 hK23 => ?_) _ _ ?_ ?_
      · skip
        have l26 := I25
        unfold wp_wk_sortByWeek_B27
        have b27 := wt_bd s24.1
        refine wt_T_if (fun h28 => ?_) (fun h28 => ?_)
        · skip
          have c29 := wt_cle h28
          unfold wp_wk_sortByWeek_B79
          refine wt_T_bi (wq_ap_put n hn 99 s24.1 s2.1 s24.2) (fun q30 h31 => ?_)
          have f32 := h31
          have k33 : (1 : Int32).toInt = 1 := by decide
          obtain ⟨j34, j34a, j34b⟩ := wt_addI s2.1 (1 : Int32)
          have b35 := wt_bd (wt_gf q30 39 8)
          have t36 : (wt_gf q30 39 8).toInt = (wt_gf s24.2 39 8).toInt := congrArg Int32.toInt (f32.1 39 8 (fun z => z))
          have b37 := wt_bd (wt_gf s24.2 39 8)
          have t38 : (wt_gf s24.2 39 8).toInt = (wt_gf s2.2 39 8).toInt := congrArg Int32.toInt (l26.1 39 8 (fun z => z))
          refine hK1 _ ⟨(wt_fr.tr (wt_fr.tr (wt_fr.tr wt_fr.rf l4 (fun i k h => h.elim) (fun i h => by (try dsimp only at h); exact (by omega))) l26 (fun i k h => h.elim) (fun i h => by (try dsimp only at h); exact (by omega))) f32 (fun i k h => h.elim) (fun i h => by (try dsimp only at h); exact (by omega))), (by (try dsimp only); omega)⟩ ?_
          (try dsimp only); omega
        · skip
          have c39 := wt_ncle h28
          have k40 : (1 : Int32).toInt = 1 := by decide
          obtain ⟨j41, j41a, j41b⟩ := wt_subI s24.1 (1 : Int32)
          refine wt_T_bi (wq_ap_look n hn 99 (s24.1 - (1 : Int32)) s24.2) (fun q42 h43 => ?_)
          obtain ⟨e44, e44v⟩ := h43
          have e45 := wt_ceq e44v
          have b46 := wt_bd (wt_lk 99 (s24.1 - (1 : Int32)) s24.2)
          have b47 := wt_bd q42.1
          rw [e44]
          refine wt_T_bi (wq_ap_look n hn 46 q42.1 s24.2) (fun q48 h49 => ?_)
          obtain ⟨e50, e50v⟩ := h49
          have e51 := wt_ceq e50v
          have b52 := wt_bd (wt_lk 46 q42.1 s24.2)
          have t53 : (wt_lk 46 q42.1 s24.2).toInt = (wt_lk 46 q42.1 s2.2).toInt := congrArg Int32.toInt (wt_lk_fr (l26.2 46 (by (try dsimp only); omega)))
          have b54 := wt_bd (wt_lk 46 q42.1 s2.2)
          have t55 : (wt_lk 46 q42.1 s2.2).toInt = (wt_lk 46 q42.1 σ).toInt := congrArg Int32.toInt (wt_lk_fr (l4.2 46 (by (try dsimp only); omega)))
          have b56 := wt_bd (wt_lk 46 q42.1 σ)
          have b57 := wt_bd q48.1
          rw [e50]
          refine wt_T_if (fun h58 => ?_) (fun h58 => ?_)
          · skip
            have c59 := wt_cle h58
            unfold wp_wk_sortByWeek_B79
            refine wt_T_bi (wq_ap_put n hn 99 s24.1 s2.1 s24.2) (fun q60 h61 => ?_)
            have f62 := h61
            obtain ⟨j63, j63a, j63b⟩ := wt_addI s2.1 (1 : Int32)
            have b64 := wt_bd (wt_gf q60 39 8)
            have t65 : (wt_gf q60 39 8).toInt = (wt_gf s24.2 39 8).toInt := congrArg Int32.toInt (f62.1 39 8 (fun z => z))
            have b66 := wt_bd (wt_gf s24.2 39 8)
            have t67 : (wt_gf s24.2 39 8).toInt = (wt_gf s2.2 39 8).toInt := congrArg Int32.toInt (l26.1 39 8 (fun z => z))
            refine hK1 _ ⟨(wt_fr.tr (wt_fr.tr (wt_fr.tr wt_fr.rf l4 (fun i k h => h.elim) (fun i h => by (try dsimp only at h); exact (by omega))) l26 (fun i k h => h.elim) (fun i h => by (try dsimp only at h); exact (by omega))) f62 (fun i k h => h.elim) (fun i h => by (try dsimp only at h); exact (by omega))), (by (try dsimp only); omega)⟩ ?_
            (try dsimp only); omega
          · skip
            have c68 := wt_ncle h58
            refine wt_T_bi (wq_ap_look n hn 99 (s24.1 - (1 : Int32)) s24.2) (fun q69 h70 => ?_)
            obtain ⟨e71, e71v⟩ := h70
            have e72 := wt_ceq e71v
            have b73 := wt_bd q69.1
            rw [e71]
            refine wt_T_bi (wq_ap_put n hn 99 s24.1 q69.1 s24.2) (fun q74 h75 => ?_)
            have f76 := h75
            have k77 : (-1 : Int32).toInt = -1 := by decide
            obtain ⟨j78, j78a, j78b⟩ := wt_addI s24.1 (-1 : Int32)
            refine hK23 _ (wt_fr.tr (wt_fr.tr wt_fr.rf l26 (fun i k h => h.elim) (fun i h => by (try dsimp only at h); exact (by omega))) f76 (fun i k h => h.elim) (fun i h => by (try dsimp only at h); exact (by omega))) ?_
            (try dsimp only); omega
      · skip
        exact wt_fr.rf
      · skip
        (try dsimp only); omega
  · skip
    have b79 := wt_bd (wt_gf σ 39 8)
    exact ⟨wt_fr.rf, (by (try dsimp only); omega)⟩
  · skip
    have b80 := wt_bd (wt_gf σ 39 8)
    (try dsimp only); omega
set_option maxRecDepth 100000 in
set_option maxHeartbeats 4000000 in
theorem wq_wk_startGreedy (n : Nat) (hn : 4294967297 < n) (σ : wt_St) : wt_T (wp_wk_startGreedy n σ) (fun q => wt_fr (fun i k => (i = 86 ∧ k = 8) ∨ (i = 86 ∧ k = 9)) (fun i => i = 99 ∨ i = 98) σ q) := by
  unfold wp_wk_startGreedy
  have b1 := wt_bd n
  refine wt_T_bi (wq_wk_sortByWeek n hn σ) (fun q2 h3 => ?_)
  have f4 := h3
  obtain ⟨σ5, eσ5⟩ : ∃ z : wt_St, z = wt_sf q2 86 8 (0 : Int32) := ⟨_, rfl⟩
  rw [← eσ5]
  have fσ5 := wt_fr_sf eσ5
  have vσ5 := wt_ceq (wt_v_sf eσ5)
  have k6 : (0 : Int32).toInt = 0 := by decide
  obtain ⟨σ7, eσ7⟩ : ∃ z : wt_St, z = wt_sf σ5 86 9 (0 : Int32) := ⟨_, rfl⟩
  rw [← eσ7]
  have fσ7 := wt_fr_sf eσ7
  have vσ7 := wt_ceq (wt_v_sf eσ7)
  refine wt_T_bi (wq_ap_copyRow n hn 40 98 σ7) (fun q8 h9 => ?_)
  have f10 := h9
  refine wt_T_some ?_
  exact (wt_fr.tr (wt_fr.tr (wt_fr.tr (wt_fr.tr wt_fr.rf f4 (fun i k h => h.elim) (fun i h => by (try dsimp only at h); exact Or.inl (by omega))) fσ5 (fun i k h => by (try dsimp only at h); exact Or.inl (by omega)) (fun i h => h.elim)) fσ7 (fun i k h => by (try dsimp only at h); exact Or.inr ((by omega))) (fun i h => h.elim)) f10 (fun i k h => h.elim) (fun i h => by (try dsimp only at h); exact Or.inr ((by omega))))
set_option maxRecDepth 100000 in
set_option maxHeartbeats 4000000 in
theorem wq_ap_fillRow (n : Nat) (hn : 4294967297 < n) (a0 : Nat) (x1 : Int32) (σ : wt_St) : wt_T (wp_ap_fillRow n a0 x1 σ) (fun q => wt_fr (fun i k => False) (fun i => i = a0) σ q) := by
  unfold wp_ap_fillRow
  have k6 : (0 : Int32).toInt = 0 := by decide
  refine wt_T_it (fun s : Int32 × wt_St => wt_fr (fun i k => False) (fun i => i = a0) σ s.2 ∧ 0 ≤ (s.1).toInt) (fun s : Int32 × wt_St => ((nI (wt_ln a0)).toInt - s.1.toInt + 0).toNat) (fun K1 s2 I3 hK1 => ?_) _ _ ?_ ?_
  · skip
    obtain ⟨l4, l5⟩ := I3
    unfold wp_ap_fillRow_B2
    have b7 := wt_lnI a0
    have b8 := wt_bd s2.1
    refine wt_T_if (fun h9 => ?_) (fun h9 => ?_)
    · skip
      have c10 := wt_cle h9
      refine wt_T_some ?_
      exact (wt_fr.tr wt_fr.rf l4 (fun i k h => h.elim) (fun i h => by (try dsimp only at h); exact (by omega)))
    · skip
      have c11 := wt_ncle h9
      have b12 := wt_ln_bd a0
      refine wt_T_gd (wt_ix (by omega) (by omega)) ?_
      obtain ⟨σ13, eσ13⟩ : ∃ z : wt_St, z = wt_sa s2.2 a0 (Int32.toNatClampNeg s2.1) x1 := ⟨_, rfl⟩
      rw [← eσ13]
      have fσ13 := wt_fr_sa eσ13
      have vσ13 := wt_ceq (wt_v_sa eσ13)
      have b14 := wt_tn s2.1
      have b15 := wt_bd x1
      have k16 : (1 : Int32).toInt = 1 := by decide
      obtain ⟨j17, j17a, j17b⟩ := wt_addI s2.1 (1 : Int32)
      refine hK1 _ ⟨(wt_fr.tr (wt_fr.tr wt_fr.rf l4 (fun i k h => h.elim) (fun i h => by (try dsimp only at h); exact (by omega))) fσ13 (fun i k h => h.elim) (fun i h => by (try dsimp only at h); exact (by omega))), (by (try dsimp only); omega)⟩ ?_
      (try dsimp only); omega
  · skip
    have b18 := wt_lnI a0
    exact ⟨wt_fr.rf, (by (try dsimp only); omega)⟩
  · skip
    have b19 := wt_lnI a0
    (try dsimp only); omega
set_option maxRecDepth 100000 in
set_option maxHeartbeats 4000000 in
theorem wq_tg_letterAt (n : Nat) (hn : 4294967297 < n) (t0 : Nat) (x1 : Int32) (x2 : Int32) (σ : wt_St) : wt_T (wp_tg_letterAt n t0 x1 x2 σ) (fun q => q.2 = σ) := by
  unfold wp_tg_letterAt
  have b1 := wt_bd n
  have b2 := wt_bd x1
  have k3 : (9 : Int32).toInt = 9 := by decide
  obtain ⟨j4, j4a, j4b⟩ := wt_mulI x1 (9 : Int32)
  have b5 := wt_bd x2
  obtain ⟨j6, j6a, j6b⟩ := wt_addI (x1 * (9 : Int32)) x2
  refine wt_T_bi (wq_ap_look n hn (t0 + 1) ((x1 * (9 : Int32)) + x2) σ) (fun q7 h8 => ?_)
  obtain ⟨e9, e9v⟩ := h8
  have e10 := wt_ceq e9v
  have b11 := wt_bd (wt_lk (t0 + 1) ((x1 * (9 : Int32)) + x2) σ)
  have b12 := wt_bd q7.1
  rw [e9]
  refine wt_T_some ?_
  exact rfl
set_option maxRecDepth 100000 in
set_option maxHeartbeats 4000000 in
theorem wq_tg_countInto (n : Nat) (hn : 4294967297 < n) (t0 : Nat) (a2 : Nat) (x1 : Int32) (σ : wt_St) : wt_T (wp_tg_countInto n t0 a2 x1 σ) (fun q => wt_fr (fun i k => False) (fun i => i = a2) σ q) := by
  unfold wp_tg_countInto
  have b1 := wt_bd n
  have b2 := wt_bd x1
  refine wt_T_bi (wq_ap_look n hn (t0 + 2) x1 σ) (fun q3 h4 => ?_)
  obtain ⟨e5, e5v⟩ := h4
  have e6 := wt_ceq e5v
  have b7 := wt_bd (wt_lk (t0 + 2) x1 σ)
  have b8 := wt_bd q3.1
  rw [e5]
  have k14 : (0 : Int32).toInt = 0 := by decide
  refine wt_T_it (fun s : Int32 × wt_St => wt_fr (fun i k => False) (fun i => i = a2) σ s.2 ∧ 0 ≤ (s.1).toInt) (fun s : Int32 × wt_St => (q3.1.toInt - s.1.toInt + 0).toNat) (fun K9 s10 I11 hK9 => ?_) _ _ ?_ ?_
  · skip
    obtain ⟨l12, l13⟩ := I11
    unfold wp_tg_countInto_B12
    have b15 := wt_bd s10.1
    refine wt_T_if (fun h16 => ?_) (fun h16 => ?_)
    · skip
      have c17 := wt_cle h16
      refine wt_T_some ?_
      exact (wt_fr.tr wt_fr.rf l12 (fun i k h => h.elim) (fun i h => by (try dsimp only at h); exact (by omega)))
    · skip
      have c18 := wt_ncle h16
      refine wt_T_bi (wq_tg_letterAt n hn t0 x1 s10.1 s10.2) (fun q19 h20 => ?_)
      have e21 := h20
      rw [e21]
      have b22 := wt_bd q19.1
      refine wt_T_bi (wq_ap_look n hn a2 q19.1 s10.2) (fun q23 h24 => ?_)
      obtain ⟨e25, e25v⟩ := h24
      have e26 := wt_ceq e25v
      have b27 := wt_bd (wt_lk a2 q19.1 s10.2)
      have b28 := wt_bd q23.1
      rw [e25]
      have k29 : (1 : Int32).toInt = 1 := by decide
      obtain ⟨j30, j30a, j30b⟩ := wt_addI q23.1 (1 : Int32)
      refine wt_T_bi (wq_ap_put n hn a2 q19.1 (q23.1 + (1 : Int32)) s10.2) (fun q31 h32 => ?_)
      have f33 := h32
      obtain ⟨j34, j34a, j34b⟩ := wt_addI s10.1 (1 : Int32)
      refine hK9 _ ⟨(wt_fr.tr (wt_fr.tr wt_fr.rf l12 (fun i k h => h.elim) (fun i h => by (try dsimp only at h); exact (by omega))) f33 (fun i k h => h.elim) (fun i h => by (try dsimp only at h); exact (by omega))), (by (try dsimp only); omega)⟩ ?_
      (try dsimp only); omega
  · skip
    exact ⟨wt_fr.rf, (by (try dsimp only); omega)⟩
  · skip
    (try dsimp only); omega
set_option maxRecDepth 100000 in
set_option maxHeartbeats 4000000 in
theorem wq_tg_spell (n : Nat) (hn : 4294967297 < n) (t0 : Nat) (a2 : Nat) (x1 : Int32) (σ : wt_St) : wt_T (wp_tg_spell n t0 a2 x1 σ) (fun q => wt_fr (fun i k => False) (fun i => i = a2) σ q) := by
  unfold wp_tg_spell
  have b1 := wt_bd n
  have k2 : (0 : Int32).toInt = 0 := by decide
  refine wt_T_bi (wq_ap_fillRow n hn a2 (0 : Int32) σ) (fun q3 h4 => ?_)
  have f5 := h4
  have b6 := wt_bd x1
  refine wt_T_bi (wq_tg_countInto n hn t0 a2 x1 q3) (fun q7 h8 => ?_)
  have f9 := h8
  refine wt_T_some ?_
  exact (wt_fr.tr (wt_fr.tr wt_fr.rf f5 (fun i k h => h.elim) (fun i h => by (try dsimp only at h); exact (by omega))) f9 (fun i k h => h.elim) (fun i h => by (try dsimp only at h); exact (by omega)))
set_option maxRecDepth 100000 in
set_option maxHeartbeats 4000000 in
theorem wq_wk_stillSaid (n : Nat) (hn : 4294967297 < n) (x1 : Int32) (σ : wt_St) : wt_T (wp_wk_stillSaid n x1 σ) (fun q => wt_fr (fun i k => False) (fun i => i = 100) σ q.2) := by
  unfold wp_wk_stillSaid
  have b1 := wt_bd n
  have b2 := wt_bd x1
  refine wt_T_bi (wq_tg_spell n hn 20 100 x1 σ) (fun q3 h4 => ?_)
  have f5 := h4
  refine wt_T_bi (wq_sk_often n hn 100 98 q3) (fun q6 h7 => ?_)
  have e8 := h7
  rw [e8]
  refine wt_T_some ?_
  exact (wt_fr.tr wt_fr.rf f5 (fun i k h => h.elim) (fun i h => by (try dsimp only at h); exact (by omega)))
set_option maxRecDepth 100000 in
set_option maxHeartbeats 4000000 in
theorem wq_wk_firstLost (n : Nat) (hn : 4294967297 < n) (x1 : Int32) (σ : wt_St) : wt_T (wp_wk_firstLost n x1 σ) (fun q => wt_fr (fun i k => (i = 86 ∧ k = 8) ∨ (i = 86 ∧ k = 9)) (fun i => i = 99 ∨ i = 98 ∨ i = 100) σ q.2) := by
  unfold wp_wk_firstLost
  have b1 := wt_bd n
  refine wt_T_bi (wq_wk_startGreedy n hn σ) (fun q2 h3 => ?_)
  have f4 := h3
  have b5 := wt_bd x1
  refine wt_T_bi (wq_wk_stillSaid n hn x1 q2) (fun q6 h7 => ?_)
  have f8 := h7
  have b9 := wt_bd q6.1
  have k10 : (0 : Int32).toInt = 0 := by decide
  refine wt_T_if (fun h11 => ?_) (fun h11 => ?_)
  · skip
    have c12 := wt_ceq h11
    refine wt_T_some ?_
    exact (wt_fr.tr (wt_fr.tr wt_fr.rf f4 (fun i k h => by (try dsimp only at h); rcases h with h | h; exact Or.inl (by omega); exact Or.inr ((by omega))) (fun i h => by (try dsimp only at h); rcases h with h | h; exact Or.inl (by omega); exact Or.inr (Or.inl (by omega)))) f8 (fun i k h => h.elim) (fun i h => by (try dsimp only at h); exact Or.inr (Or.inr ((by omega)))))
  · skip
    have c13 := wt_nceq h11
    refine wt_T_it (fun s : Int32 × wt_St => wt_fr (fun i k => (i = 86 ∧ k = 8) ∨ (i = 86 ∧ k = 9)) (fun i => i = 100 ∨ i = 98) q6.2 s.2 ∧ 0 ≤ (s.1).toInt) (fun s : Int32 × wt_St => ((wt_gf s.2 39 8).toInt - s.1.toInt + 0).toNat) (fun K14 s15 I16 hK14 => ?_) _ _ ?_ ?_
    · skip
      obtain ⟨l17, l18⟩ := I16
      unfold wp_wk_firstLost_B16
      have b19 := wt_bd (wt_gf s15.2 39 8)
      have t20 : (wt_gf s15.2 39 8).toInt = (wt_gf q6.2 39 8).toInt := congrArg Int32.toInt (l17.1 39 8 (by (try dsimp only); omega))
      have b21 := wt_bd (wt_gf q6.2 39 8)
      have t22 : (wt_gf q6.2 39 8).toInt = (wt_gf q2 39 8).toInt := congrArg Int32.toInt (f8.1 39 8 (fun z => z))
      have b23 := wt_bd (wt_gf q2 39 8)
      have t24 : (wt_gf q2 39 8).toInt = (wt_gf σ 39 8).toInt := congrArg Int32.toInt (f4.1 39 8 (by (try dsimp only); omega))
      have b25 := wt_bd (wt_gf σ 39 8)
      have b26 := wt_bd s15.1
      refine wt_T_if (fun h27 => ?_) (fun h27 => ?_)
      · skip
        have c28 := wt_cle h27
        refine wt_T_some ?_
        exact (wt_fr.tr (wt_fr.tr (wt_fr.tr wt_fr.rf f4 (fun i k h => by (try dsimp only at h); rcases h with h | h; exact Or.inl (by omega); exact Or.inr ((by omega))) (fun i h => by (try dsimp only at h); rcases h with h | h; exact Or.inl (by omega); exact Or.inr (Or.inl (by omega)))) f8 (fun i k h => h.elim) (fun i h => by (try dsimp only at h); exact Or.inr (Or.inr ((by omega))))) l17 (fun i k h => by (try dsimp only at h); rcases h with h | h; exact Or.inl (by omega); exact Or.inr ((by omega))) (fun i h => by (try dsimp only at h); rcases h with h | h; exact Or.inr (Or.inr ((by omega))); exact Or.inr (Or.inl (by omega))))
      · skip
        have c29 := wt_ncle h27
        refine wt_T_bi (wq_ap_look n hn 99 s15.1 s15.2) (fun q30 h31 => ?_)
        obtain ⟨e32, e32v⟩ := h31
        have e33 := wt_ceq e32v
        have b34 := wt_bd (wt_lk 99 s15.1 s15.2)
        have t35 : (wt_lk 99 s15.1 s15.2).toInt = (wt_lk 99 s15.1 q6.2).toInt := congrArg Int32.toInt (wt_lk_fr (l17.2 99 (by (try dsimp only); omega)))
        have b36 := wt_bd (wt_lk 99 s15.1 q6.2)
        have t37 : (wt_lk 99 s15.1 q6.2).toInt = (wt_lk 99 s15.1 q2).toInt := congrArg Int32.toInt (wt_lk_fr (f8.2 99 (by (try dsimp only); omega)))
        have b38 := wt_bd (wt_lk 99 s15.1 q2)
        have b39 := wt_bd q30.1
        rw [e32]
        refine wt_T_bi (wq_wk_printNext n hn q30.1 s15.2) (fun q40 h41 => ?_)
        have f42 := h41
        refine wt_T_bi (wq_wk_stillSaid n hn x1 q40) (fun q43 h44 => ?_)
        have f45 := h44
        have b46 := wt_bd q43.1
        refine wt_T_if (fun h47 => ?_) (fun h47 => ?_)
        · skip
          have c48 := wt_ceq h47
          refine wt_T_bi (wq_ap_look n hn 46 q30.1 q43.2) (fun q49 h50 => ?_)
          obtain ⟨e51, e51v⟩ := h50
          have e52 := wt_ceq e51v
          have b53 := wt_bd (wt_lk 46 q30.1 q43.2)
          have t54 : (wt_lk 46 q30.1 q43.2).toInt = (wt_lk 46 q30.1 q40).toInt := congrArg Int32.toInt (wt_lk_fr (f45.2 46 (by (try dsimp only); omega)))
          have b55 := wt_bd (wt_lk 46 q30.1 q40)
          have t56 : (wt_lk 46 q30.1 q40).toInt = (wt_lk 46 q30.1 s15.2).toInt := congrArg Int32.toInt (wt_lk_fr (f42.2 46 (by (try dsimp only); omega)))
          have b57 := wt_bd (wt_lk 46 q30.1 s15.2)
          have t58 : (wt_lk 46 q30.1 s15.2).toInt = (wt_lk 46 q30.1 q6.2).toInt := congrArg Int32.toInt (wt_lk_fr (l17.2 46 (by (try dsimp only); omega)))
          have b59 := wt_bd (wt_lk 46 q30.1 q6.2)
          have t60 : (wt_lk 46 q30.1 q6.2).toInt = (wt_lk 46 q30.1 q2).toInt := congrArg Int32.toInt (wt_lk_fr (f8.2 46 (by (try dsimp only); omega)))
          have b61 := wt_bd (wt_lk 46 q30.1 q2)
          have t62 : (wt_lk 46 q30.1 q2).toInt = (wt_lk 46 q30.1 σ).toInt := congrArg Int32.toInt (wt_lk_fr (f4.2 46 (by (try dsimp only); omega)))
          have b63 := wt_bd (wt_lk 46 q30.1 σ)
          have b64 := wt_bd q49.1
          rw [e51]
          refine wt_T_some ?_
          exact (wt_fr.tr (wt_fr.tr (wt_fr.tr (wt_fr.tr (wt_fr.tr wt_fr.rf f4 (fun i k h => by (try dsimp only at h); rcases h with h | h; exact Or.inl (by omega); exact Or.inr ((by omega))) (fun i h => by (try dsimp only at h); rcases h with h | h; exact Or.inl (by omega); exact Or.inr (Or.inl (by omega)))) f8 (fun i k h => h.elim) (fun i h => by (try dsimp only at h); exact Or.inr (Or.inr ((by omega))))) l17 (fun i k h => by (try dsimp only at h); rcases h with h | h; exact Or.inl (by omega); exact Or.inr ((by omega))) (fun i h => by (try dsimp only at h); rcases h with h | h; exact Or.inr (Or.inr ((by omega))); exact Or.inr (Or.inl (by omega)))) f42 (fun i k h => by (try dsimp only at h); rcases h with h | h; exact Or.inl (by omega); exact Or.inr ((by omega))) (fun i h => by (try dsimp only at h); rcases h with h | h; exact Or.inr (Or.inr ((by omega))); exact Or.inr (Or.inl (by omega)))) f45 (fun i k h => h.elim) (fun i h => by (try dsimp only at h); exact Or.inr (Or.inr ((by omega)))))
        · skip
          have c65 := wt_nceq h47
          have k66 : (1 : Int32).toInt = 1 := by decide
          obtain ⟨j67, j67a, j67b⟩ := wt_addI s15.1 (1 : Int32)
          have b68 := wt_bd (wt_gf q43.2 39 8)
          have t69 : (wt_gf q43.2 39 8).toInt = (wt_gf q40 39 8).toInt := congrArg Int32.toInt (f45.1 39 8 (fun z => z))
          have b70 := wt_bd (wt_gf q40 39 8)
          have t71 : (wt_gf q40 39 8).toInt = (wt_gf s15.2 39 8).toInt := congrArg Int32.toInt (f42.1 39 8 (by (try dsimp only); omega))
          refine hK14 _ ⟨(wt_fr.tr (wt_fr.tr (wt_fr.tr wt_fr.rf l17 (fun i k h => by (try dsimp only at h); rcases h with h | h; exact Or.inl (by omega); exact Or.inr ((by omega))) (fun i h => by (try dsimp only at h); rcases h with h | h; exact Or.inl (by omega); exact Or.inr ((by omega)))) f42 (fun i k h => by (try dsimp only at h); rcases h with h | h; exact Or.inl (by omega); exact Or.inr ((by omega))) (fun i h => by (try dsimp only at h); rcases h with h | h; exact Or.inl (by omega); exact Or.inr ((by omega)))) f45 (fun i k h => h.elim) (fun i h => by (try dsimp only at h); exact Or.inl (by omega))), (by (try dsimp only); omega)⟩ ?_
          (try dsimp only); omega
    · skip
      have b72 := wt_bd (wt_gf q6.2 39 8)
      have t73 : (wt_gf q6.2 39 8).toInt = (wt_gf q2 39 8).toInt := congrArg Int32.toInt (f8.1 39 8 (fun z => z))
      have b74 := wt_bd (wt_gf q2 39 8)
      have t75 : (wt_gf q2 39 8).toInt = (wt_gf σ 39 8).toInt := congrArg Int32.toInt (f4.1 39 8 (by (try dsimp only); omega))
      have b76 := wt_bd (wt_gf σ 39 8)
      exact ⟨wt_fr.rf, (by (try dsimp only); omega)⟩
    · skip
      have b77 := wt_bd (wt_gf q6.2 39 8)
      have t78 : (wt_gf q6.2 39 8).toInt = (wt_gf q2 39 8).toInt := congrArg Int32.toInt (f8.1 39 8 (fun z => z))
      have b79 := wt_bd (wt_gf q2 39 8)
      have t80 : (wt_gf q2 39 8).toInt = (wt_gf σ 39 8).toInt := congrArg Int32.toInt (f4.1 39 8 (by (try dsimp only); omega))
      have b81 := wt_bd (wt_gf σ 39 8)
      (try dsimp only); omega
set_option maxRecDepth 100000 in
set_option maxHeartbeats 4000000 in
theorem wq_ld_mostThere (n : Nat) (hn : 4294967297 < n) (t0 : Nat) (x1 : Int32) (σ : wt_St) : wt_T (wp_ld_mostThere n t0 x1 σ) (fun q => q.2 = σ) := by
  unfold wp_ld_mostThere
  have k6 : (0 : Int32).toInt = 0 := by decide
  refine wt_T_it (fun s : Int32 × Int32 × wt_St => s.2.2 = σ ∧ 0 ≤ (s.2.1).toInt) (fun s : Int32 × Int32 × wt_St => ((wt_lk (t0 + 3) x1 s.2.2).toInt - s.2.1.toInt + 0).toNat) (fun K1 s2 I3 hK1 => ?_) _ _ ?_ ?_
  · skip
    obtain ⟨l4, l5⟩ := I3
    unfold wp_ld_mostThere_B4
    rw [l4]
    have b7 := wt_bd (wt_lk (t0 + 3) x1 σ)
    have b8 := wt_bd s2.2.1
    have b9 := wt_bd n
    have b10 := wt_bd x1
    refine wt_T_bi (wq_ap_look n hn (t0 + 3) x1 σ) (fun q11 h12 => ?_)
    obtain ⟨e13, e13v⟩ := h12
    have e14 := wt_ceq e13v
    have b15 := wt_bd q11.1
    rw [e13]
    refine wt_T_if (fun h16 => ?_) (fun h16 => ?_)
    · skip
      have c17 := wt_cle h16
      refine wt_T_some ?_
      exact rfl
    · skip
      have c18 := wt_ncle h16
      have k19 : (12 : Int32).toInt = 12 := by decide
      obtain ⟨j20, j20a, j20b⟩ := wt_mulI x1 (12 : Int32)
      obtain ⟨j21, j21a, j21b⟩ := wt_addI (x1 * (12 : Int32)) s2.2.1
      refine wt_T_bi (wq_ap_look n hn (t0 + 4) ((x1 * (12 : Int32)) + s2.2.1) σ) (fun q22 h23 => ?_)
      obtain ⟨e24, e24v⟩ := h23
      have e25 := wt_ceq e24v
      have b26 := wt_bd (wt_lk (t0 + 4) ((x1 * (12 : Int32)) + s2.2.1) σ)
      have b27 := wt_bd q22.1
      rw [e24]
      have b28 := wt_bd s2.1
      have b29 := wt_bd (if s2.1 < q22.1 then q22.1 else s2.1)
      have i30 : ((s2.1 < q22.1) ∧ (if s2.1 < q22.1 then q22.1 else s2.1) = q22.1) ∨ (¬ (s2.1 < q22.1) ∧ (if s2.1 < q22.1 then q22.1 else s2.1) = s2.1) := by
        by_cases h : s2.1 < q22.1
        · exact Or.inl ⟨h, if_pos h⟩
        · exact Or.inr ⟨h, if_neg h⟩
      have i31 : (s2.1.toInt < q22.1.toInt ∧ (if s2.1 < q22.1 then q22.1 else s2.1).toInt = q22.1.toInt) ∨ (q22.1.toInt ≤ s2.1.toInt ∧ (if s2.1 < q22.1 then q22.1 else s2.1).toInt = s2.1.toInt) := i30.elim (fun h => Or.inl ⟨(wt_clt h.1), wt_ceq h.2⟩) (fun h => Or.inr ⟨(wt_ncl h.1), wt_ceq h.2⟩)
      have k32 : (1 : Int32).toInt = 1 := by decide
      obtain ⟨j33, j33a, j33b⟩ := wt_addI s2.2.1 (1 : Int32)
      refine hK1 _ ⟨rfl, (by (try dsimp only); omega)⟩ ?_
      (try dsimp only); omega
  · skip
    have b34 := wt_bd (wt_lk (t0 + 3) x1 σ)
    exact ⟨rfl, (by (try dsimp only); omega)⟩
  · skip
    have b35 := wt_bd (wt_lk (t0 + 3) x1 σ)
    (try dsimp only); omega
set_option maxRecDepth 100000 in
set_option maxHeartbeats 4000000 in
theorem wq_tr_bestExchange (n : Nat) (hn : 4294967297 < n) (x1 : Int32) (σ : wt_St) : wt_T (wp_tr_bestExchange n x1 σ) (fun q => wt_fr (fun i k => False) (fun i => i = 102 ∨ i = 103 ∨ i = 104 ∨ i = 105) σ q.2) := by
  unfold wp_tr_bestExchange
  have k6 : (0 : Int32).toInt = 0 := by decide
  refine wt_T_it (fun s : Int32 × wt_St => wt_fr (fun i k => False) (fun i => i = 102 ∨ i = 103 ∨ i = 104 ∨ i = 105) σ s.2 ∧ 0 ≤ (s.1).toInt) (fun s : Int32 × wt_St => ((26 : Int32).toInt - s.1.toInt + 0).toNat) (fun K1 s2 I3 hK1 => ?_) _ _ ?_ ?_
  · skip
    obtain ⟨l4, l5⟩ := I3
    unfold wp_tr_bestExchange_B2
    have k7 : (26 : Int32).toInt = 26 := by decide
    have b8 := wt_bd s2.1
    refine wt_T_if (fun h9 => ?_) (fun h9 => ?_)
    · skip
      have c10 := wt_cle h9
      have b11 := wt_bd n
      have k12 : (-1 : Int32).toInt = -1 := by decide
      refine wt_T_bi (wq_tr_leastOf n hn (-1 : Int32) (-1 : Int32) s2.2) (fun q13 h14 => ?_)
      have e15 := h14
      rw [e15]
      have b21 := wt_bd q13.1
      refine wt_T_it (fun s : Int32 × Int32 × Int32 × wt_St => s.2.2.2 = s2.2 ∧ 0 ≤ (s.2.2.1).toInt) (fun s : Int32 × Int32 × Int32 × wt_St => ((26 : Int32).toInt - s.2.2.1.toInt + 0).toNat) (fun K16 s17 I18 hK16 => ?_) _ _ ?_ ?_
      · skip
        obtain ⟨l19, l20⟩ := I18
        unfold wp_tr_bestExchange_B40
        rw [l19]
        have b22 := wt_bd s17.2.2.1
        refine wt_T_if (fun h23 => ?_) (fun h23 => ?_)
        · skip
          have c24 := wt_cle h23
          refine wt_T_some ?_
          exact (wt_fr.tr wt_fr.rf l4 (fun i k h => h.elim) (fun i h => by (try dsimp only at h); rcases h with h | h | h | h; exact Or.inl (by omega); exact Or.inr (Or.inl (by omega)); exact Or.inr (Or.inr (Or.inl (by omega))); exact Or.inr (Or.inr (Or.inr ((by omega))))))
        · skip
          have c25 := wt_ncle h23
          have b31 := wt_bd s17.1
          have b32 := wt_bd s17.2.1
          refine wt_T_it (fun s : Int32 × Int32 × Int32 × wt_St => s.2.2.2 = s2.2 ∧ 0 ≤ (s.2.2.1).toInt) (fun s : Int32 × Int32 × Int32 × wt_St => ((26 : Int32).toInt - s.2.2.1.toInt + 0).toNat) (fun K26 s27 I28 hK26 => ?_) _ _ ?_ ?_
          · skip
            obtain ⟨l29, l30⟩ := I28
            unfold wp_tr_bestExchange_B50
            rw [l29]
            have b33 := wt_bd s27.2.2.1
            refine wt_T_if (fun h34 => ?_) (fun h34 => ?_)
            · skip
              have c35 := wt_cle h34
              have b36 := wt_bd s27.1
              have b37 := wt_bd s27.2.1
              have k38 : (1 : Int32).toInt = 1 := by decide
              obtain ⟨j39, j39a, j39b⟩ := wt_addI s17.2.2.1 (1 : Int32)
              refine hK16 _ ⟨rfl, (by (try dsimp only); omega)⟩ ?_
              (try dsimp only); omega
            · skip
              have c40 := wt_ncle h34
              refine wt_T_bi (wq_sk_inCase n hn s17.2.2.1 s2.2) (fun q41 h42 => ?_)
              have e43 := h42
              rw [e43]
              have b44 := wt_bd q41.1
              refine wt_T_if (fun h45 => ?_) (fun h45 => ?_)
              · skip
                have c46 := wt_cle h45
                unfold wp_tr_bestExchange_B88
                unfold wp_tr_bestExchange_B89
                refine wt_T_if (fun h47 => ?_) (fun h47 => ?_)
                · skip
                  have c48 := wt_ceq h47
                  unfold wp_tr_bestExchange_B108
                  have b49 := wt_bd s27.1
                  refine wt_T_if (fun h50 => ?_) (fun h50 => ?_)
                  · skip
                    have c51 := wt_cle h50
                    unfold wp_tr_bestExchange_B128
                    have b52 := wt_bd s27.2.1
                    have k53 : (1 : Int32).toInt = 1 := by decide
                    obtain ⟨j54, j54a, j54b⟩ := wt_addI s27.2.2.1 (1 : Int32)
                    refine hK26 _ ⟨rfl, (by (try dsimp only); omega)⟩ ?_
                    (try dsimp only); omega
                  · skip
                    have c55 := wt_ncle h50
                    unfold wp_tr_bestExchange_B128
                    have k56 : (100 : Int32).toInt = 100 := by decide
                    obtain ⟨j57, j57a, j57b⟩ := wt_mulI s17.2.2.1 (100 : Int32)
                    obtain ⟨j58, j58a, j58b⟩ := wt_addI (s17.2.2.1 * (100 : Int32)) s27.2.2.1
                    have k59 : (1 : Int32).toInt = 1 := by decide
                    obtain ⟨j60, j60a, j60b⟩ := wt_addI s27.2.2.1 (1 : Int32)
                    refine hK26 _ ⟨rfl, (by (try dsimp only); omega)⟩ ?_
                    (try dsimp only); omega
                · skip
                  have c61 := wt_nceq h47
                  refine wt_T_bi (wq_tr_leastOf n hn s17.2.2.1 s27.2.2.1 s2.2) (fun q62 h63 => ?_)
                  have e64 := h63
                  rw [e64]
                  unfold wp_tr_bestExchange_B108
                  have b65 := wt_bd q62.1
                  have b66 := wt_bd s27.1
                  refine wt_T_if (fun h67 => ?_) (fun h67 => ?_)
                  · skip
                    have c68 := wt_cle h67
                    unfold wp_tr_bestExchange_B128
                    have b69 := wt_bd s27.2.1
                    have k70 : (1 : Int32).toInt = 1 := by decide
                    obtain ⟨j71, j71a, j71b⟩ := wt_addI s27.2.2.1 (1 : Int32)
                    refine hK26 _ ⟨rfl, (by (try dsimp only); omega)⟩ ?_
                    (try dsimp only); omega
                  · skip
                    have c72 := wt_ncle h67
                    unfold wp_tr_bestExchange_B128
                    have k73 : (100 : Int32).toInt = 100 := by decide
                    obtain ⟨j74, j74a, j74b⟩ := wt_mulI s17.2.2.1 (100 : Int32)
                    obtain ⟨j75, j75a, j75b⟩ := wt_addI (s17.2.2.1 * (100 : Int32)) s27.2.2.1
                    have k76 : (1 : Int32).toInt = 1 := by decide
                    obtain ⟨j77, j77a, j77b⟩ := wt_addI s27.2.2.1 (1 : Int32)
                    refine hK26 _ ⟨rfl, (by (try dsimp only); omega)⟩ ?_
                    (try dsimp only); omega
              · skip
                have c78 := wt_ncle h45
                refine wt_T_bi (wq_ap_look n hn 7 s27.2.2.1 s2.2) (fun q79 h80 => ?_)
                obtain ⟨e81, e81v⟩ := h80
                have e82 := wt_ceq e81v
                have b83 := wt_bd (wt_lk 7 s27.2.2.1 s2.2)
                have t84 : (wt_lk 7 s27.2.2.1 s2.2).toInt = (wt_lk 7 s27.2.2.1 σ).toInt := congrArg Int32.toInt (wt_lk_fr (l4.2 7 (by (try dsimp only); omega)))
                have b85 := wt_bd (wt_lk 7 s27.2.2.1 σ)
                have b86 := wt_bd q79.1
                rw [e81]
                refine wt_T_if (fun h87 => ?_) (fun h87 => ?_)
                · skip
                  have c88 := wt_cle h87
                  unfold wp_tr_bestExchange_B88
                  unfold wp_tr_bestExchange_B89
                  refine wt_T_if (fun h89 => ?_) (fun h89 => ?_)
                  · skip
                    have c90 := wt_ceq h89
                    unfold wp_tr_bestExchange_B108
                    have b91 := wt_bd s27.1
                    refine wt_T_if (fun h92 => ?_) (fun h92 => ?_)
                    · skip
                      have c93 := wt_cle h92
                      unfold wp_tr_bestExchange_B128
                      have b94 := wt_bd s27.2.1
                      have k95 : (1 : Int32).toInt = 1 := by decide
                      obtain ⟨j96, j96a, j96b⟩ := wt_addI s27.2.2.1 (1 : Int32)
                      refine hK26 _ ⟨rfl, (by (try dsimp only); omega)⟩ ?_
                      (try dsimp only); omega
                    · skip
                      have c97 := wt_ncle h92
                      unfold wp_tr_bestExchange_B128
                      have k98 : (100 : Int32).toInt = 100 := by decide
                      obtain ⟨j99, j99a, j99b⟩ := wt_mulI s17.2.2.1 (100 : Int32)
                      obtain ⟨j100, j100a, j100b⟩ := wt_addI (s17.2.2.1 * (100 : Int32)) s27.2.2.1
                      have k101 : (1 : Int32).toInt = 1 := by decide
                      obtain ⟨j102, j102a, j102b⟩ := wt_addI s27.2.2.1 (1 : Int32)
                      refine hK26 _ ⟨rfl, (by (try dsimp only); omega)⟩ ?_
                      (try dsimp only); omega
                  · skip
                    have c103 := wt_nceq h89
                    refine wt_T_bi (wq_tr_leastOf n hn s17.2.2.1 s27.2.2.1 s2.2) (fun q104 h105 => ?_)
                    have e106 := h105
                    rw [e106]
                    unfold wp_tr_bestExchange_B108
                    have b107 := wt_bd q104.1
                    have b108 := wt_bd s27.1
                    refine wt_T_if (fun h109 => ?_) (fun h109 => ?_)
                    · skip
                      have c110 := wt_cle h109
                      unfold wp_tr_bestExchange_B128
                      have b111 := wt_bd s27.2.1
                      have k112 : (1 : Int32).toInt = 1 := by decide
                      obtain ⟨j113, j113a, j113b⟩ := wt_addI s27.2.2.1 (1 : Int32)
                      refine hK26 _ ⟨rfl, (by (try dsimp only); omega)⟩ ?_
                      (try dsimp only); omega
                    · skip
                      have c114 := wt_ncle h109
                      unfold wp_tr_bestExchange_B128
                      have k115 : (100 : Int32).toInt = 100 := by decide
                      obtain ⟨j116, j116a, j116b⟩ := wt_mulI s17.2.2.1 (100 : Int32)
                      obtain ⟨j117, j117a, j117b⟩ := wt_addI (s17.2.2.1 * (100 : Int32)) s27.2.2.1
                      have k118 : (1 : Int32).toInt = 1 := by decide
                      obtain ⟨j119, j119a, j119b⟩ := wt_addI s27.2.2.1 (1 : Int32)
                      refine hK26 _ ⟨rfl, (by (try dsimp only); omega)⟩ ?_
                      (try dsimp only); omega
                · skip
                  have c120 := wt_ncle h87
                  unfold wp_tr_bestExchange_B89
                  have k121 : (1 : Int32).toInt = 1 := by decide
                  refine wt_T_if (fun h122 => ?_) (fun h122 => ?_)
                  · skip
                    have c123 := wt_ceq h122
                    unfold wp_tr_bestExchange_B108
                    have b124 := wt_bd s27.1
                    refine wt_T_if (fun h125 => ?_) (fun h125 => ?_)
                    · skip
                      have c126 := wt_cle h125
                      unfold wp_tr_bestExchange_B128
                      have b127 := wt_bd s27.2.1
                      obtain ⟨j128, j128a, j128b⟩ := wt_addI s27.2.2.1 (1 : Int32)
                      refine hK26 _ ⟨rfl, (by (try dsimp only); omega)⟩ ?_
                      (try dsimp only); omega
                    · skip
                      have c129 := wt_ncle h125
                      unfold wp_tr_bestExchange_B128
                      have k130 : (100 : Int32).toInt = 100 := by decide
                      obtain ⟨j131, j131a, j131b⟩ := wt_mulI s17.2.2.1 (100 : Int32)
                      obtain ⟨j132, j132a, j132b⟩ := wt_addI (s17.2.2.1 * (100 : Int32)) s27.2.2.1
                      obtain ⟨j133, j133a, j133b⟩ := wt_addI s27.2.2.1 (1 : Int32)
                      refine hK26 _ ⟨rfl, (by (try dsimp only); omega)⟩ ?_
                      (try dsimp only); omega
                  · skip
                    have c134 := wt_nceq h122
                    refine wt_T_bi (wq_tr_leastOf n hn s17.2.2.1 s27.2.2.1 s2.2) (fun q135 h136 => ?_)
                    have e137 := h136
                    rw [e137]
                    unfold wp_tr_bestExchange_B108
                    have b138 := wt_bd q135.1
                    have b139 := wt_bd s27.1
                    refine wt_T_if (fun h140 => ?_) (fun h140 => ?_)
                    · skip
                      have c141 := wt_cle h140
                      unfold wp_tr_bestExchange_B128
                      have b142 := wt_bd s27.2.1
                      obtain ⟨j143, j143a, j143b⟩ := wt_addI s27.2.2.1 (1 : Int32)
                      refine hK26 _ ⟨rfl, (by (try dsimp only); omega)⟩ ?_
                      (try dsimp only); omega
                    · skip
                      have c144 := wt_ncle h140
                      unfold wp_tr_bestExchange_B128
                      have k145 : (100 : Int32).toInt = 100 := by decide
                      obtain ⟨j146, j146a, j146b⟩ := wt_mulI s17.2.2.1 (100 : Int32)
                      obtain ⟨j147, j147a, j147b⟩ := wt_addI (s17.2.2.1 * (100 : Int32)) s27.2.2.1
                      obtain ⟨j148, j148a, j148b⟩ := wt_addI s27.2.2.1 (1 : Int32)
                      refine hK26 _ ⟨rfl, (by (try dsimp only); omega)⟩ ?_
                      (try dsimp only); omega
          · skip
            exact ⟨rfl, (by (try dsimp only); omega)⟩
          · skip
            (try dsimp only); omega
      · skip
        exact ⟨rfl, (by (try dsimp only); omega)⟩
      · skip
        (try dsimp only); omega
    · skip
      have c149 := wt_ncle h9
      have b150 := wt_bd n
      refine wt_T_bi (wq_ld_mostThere n hn 4 s2.1 s2.2) (fun q151 h152 => ?_)
      have e153 := h152
      rw [e153]
      have b154 := wt_bd x1
      have b155 := wt_bd q151.1
      refine wt_T_bi (wq_tr_weigh n hn x1 s2.1 q151.1 s2.2) (fun q156 h157 => ?_)
      have f158 := h157
      have k159 : (1 : Int32).toInt = 1 := by decide
      obtain ⟨j160, j160a, j160b⟩ := wt_addI s2.1 (1 : Int32)
      refine hK1 _ ⟨(wt_fr.tr (wt_fr.tr wt_fr.rf l4 (fun i k h => h.elim) (fun i h => by (try dsimp only at h); rcases h with h | h | h | h; exact Or.inl (by omega); exact Or.inr (Or.inl (by omega)); exact Or.inr (Or.inr (Or.inl (by omega))); exact Or.inr (Or.inr (Or.inr ((by omega)))))) f158 (fun i k h => h.elim) (fun i h => by (try dsimp only at h); rcases h with h | h | h | h; exact Or.inl (by omega); exact Or.inr (Or.inl (by omega)); exact Or.inr (Or.inr (Or.inl (by omega))); exact Or.inr (Or.inr (Or.inr ((by omega)))))), (by (try dsimp only); omega)⟩ ?_
      (try dsimp only); omega
  · skip
    have k161 : (26 : Int32).toInt = 26 := by decide
    exact ⟨wt_fr.rf, (by (try dsimp only); omega)⟩
  · skip
    have k162 : (26 : Int32).toInt = 26 := by decide
    (try dsimp only); omega
set_option maxRecDepth 100000 in
set_option maxHeartbeats 4000000 in
theorem wq_ap_fault (n : Nat) (hn : 4294967297 < n) (σ : wt_St) : wt_T (wp_ap_fault n σ) (fun q => q.2 = σ) := by
  unfold wp_ap_fault
  refine wt_T_some ?_
  exact rfl
set_option maxRecDepth 100000 in
set_option maxHeartbeats 4000000 in
theorem wq_tp_push (n : Nat) (hn : 4294967297 < n) (x1 : Int32) (σ : wt_St) : wt_T (wp_tp_push n x1 σ) (fun q => wt_fr (fun i k => (i = 1 ∧ k = 2)) (fun i => i = 2) σ q) := by
  unfold wp_tp_push
  have k5 : (24 : Int32).toInt = 24 := by decide
  refine wt_T_it (fun s : Int32 × wt_St => wt_fr (fun i k => (i = 1 ∧ k = 2)) (fun i => i = 2) σ s.2) (fun s : Int32 × wt_St => (s.1.toInt + 1).toNat) (fun K1 s2 I3 hK1 => ?_) _ _ ?_ ?_
  · skip
    have l4 := I3
    unfold wp_tp_push_B3
    have b6 := wt_bd s2.1
    have k7 : (0 : Int32).toInt = 0 := by decide
    refine wt_T_if (fun h8 => ?_) (fun h8 => ?_)
    · skip
      have c9 := wt_clt h8
      refine wt_T_some ?_
      exact (wt_fr.tr wt_fr.rf l4 (fun i k h => by (try dsimp only at h); exact (by omega)) (fun i h => by (try dsimp only at h); exact (by omega)))
    · skip
      have c10 := wt_ncl h8
      have b11 := wt_bd n
      have b12 := wt_bd (wt_gf s2.2 1 2)
      have b13 := wt_bd (wt_ush x1 s2.1)
      have k14 : (255 : Int32).toInt = 255 := by decide
      have b15 := wt_bd ((wt_ush x1 s2.1) &&& (255 : Int32))
      refine wt_T_bi (wq_ap_put n hn 2 (wt_gf s2.2 1 2) ((wt_ush x1 s2.1) &&& (255 : Int32)) s2.2) (fun q16 h17 => ?_)
      have f18 := h17
      obtain ⟨σ19, eσ19⟩ : ∃ z : wt_St, z = wt_sf q16 1 2 ((wt_gf q16 1 2) + (1 : Int32)) := ⟨_, rfl⟩
      rw [← eσ19]
      have fσ19 := wt_fr_sf eσ19
      have vσ19 := wt_ceq (wt_v_sf eσ19)
      have b20 := wt_bd (wt_gf q16 1 2)
      have t21 : (wt_gf q16 1 2).toInt = (wt_gf s2.2 1 2).toInt := congrArg Int32.toInt (f18.1 1 2 (fun z => z))
      have k22 : (1 : Int32).toInt = 1 := by decide
      obtain ⟨j23, j23a, j23b⟩ := wt_addI (wt_gf q16 1 2) (1 : Int32)
      have k24 : (-8 : Int32).toInt = -8 := by decide
      obtain ⟨j25, j25a, j25b⟩ := wt_addI s2.1 (-8 : Int32)
      refine hK1 _ (wt_fr.tr (wt_fr.tr (wt_fr.tr wt_fr.rf l4 (fun i k h => by (try dsimp only at h); exact (by omega)) (fun i h => by (try dsimp only at h); exact (by omega))) f18 (fun i k h => h.elim) (fun i h => by (try dsimp only at h); exact (by omega))) fσ19 (fun i k h => by (try dsimp only at h); exact (by omega)) (fun i h => h.elim)) ?_
      (try dsimp only); omega
  · skip
    exact wt_fr.rf
  · skip
    (try dsimp only); omega
set_option maxRecDepth 100000 in
set_option maxHeartbeats 4000000 in
theorem wq_ap_feed (n : Nat) (hn : 4294967297 < n) (x1 : Int32) (x2 : Int32) (x3 : Int32) (x4 : Int32) (x5 : Int32) (σ : wt_St) : wt_T (wp_ap_feed n x1 x2 x3 x4 x5 σ) (fun q => wt_fr (fun i k => (i = 1 ∧ k = 2)) (fun i => i = 2) σ q.2) := by
  unfold wp_ap_feed
  have b1 := wt_bd (wt_gf σ 1 2)
  have k2 : (480 : Int32).toInt = 480 := by decide
  refine wt_T_if (fun h3 => ?_) (fun h3 => ?_)
  · skip
    have c4 := wt_cle h3
    have b5 := wt_bd n
    have b6 := wt_bd x1
    refine wt_T_bi (wq_tp_push n hn x1 σ) (fun q7 h8 => ?_)
    have f9 := h8
    have b10 := wt_bd x2
    refine wt_T_bi (wq_tp_push n hn x2 q7) (fun q11 h12 => ?_)
    have f13 := h12
    have b14 := wt_bd x3
    refine wt_T_bi (wq_tp_push n hn x3 q11) (fun q15 h16 => ?_)
    have f17 := h16
    have b18 := wt_bd x4
    refine wt_T_bi (wq_tp_push n hn x4 q15) (fun q19 h20 => ?_)
    have f21 := h20
    have b22 := wt_bd x5
    refine wt_T_bi (wq_tp_push n hn x5 q19) (fun q23 h24 => ?_)
    have f25 := h24
    refine wt_T_some ?_
    exact (wt_fr.tr (wt_fr.tr (wt_fr.tr (wt_fr.tr (wt_fr.tr wt_fr.rf f9 (fun i k h => by (try dsimp only at h); exact (by omega)) (fun i h => by (try dsimp only at h); exact (by omega))) f13 (fun i k h => by (try dsimp only at h); exact (by omega)) (fun i h => by (try dsimp only at h); exact (by omega))) f17 (fun i k h => by (try dsimp only at h); exact (by omega)) (fun i h => by (try dsimp only at h); exact (by omega))) f21 (fun i k h => by (try dsimp only at h); exact (by omega)) (fun i h => by (try dsimp only at h); exact (by omega))) f25 (fun i k h => by (try dsimp only at h); exact (by omega)) (fun i h => by (try dsimp only at h); exact (by omega)))
  · skip
    have c26 := wt_ncle h3
    refine wt_T_some ?_
    exact wt_fr.rf
set_option maxRecDepth 100000 in
set_option maxHeartbeats 4000000 in
theorem wq_ld_mayFollow (n : Nat) (hn : 4294967297 < n) (t0 : Nat) (x1 : Int32) (x2 : Int32) (σ : wt_St) : wt_T (wp_ld_mayFollow n t0 x1 x2 σ) (fun q => q.2 = σ) := by
  unfold wp_ld_mayFollow
  have b1 := wt_bd n
  have b2 := wt_bd x1
  refine wt_T_bi (wq_ap_look n hn (t0 + 7) x1 σ) (fun q3 h4 => ?_)
  obtain ⟨e5, e5v⟩ := h4
  have e6 := wt_ceq e5v
  have b7 := wt_bd (wt_lk (t0 + 7) x1 σ)
  have b8 := wt_bd q3.1
  rw [e5]
  have b9 := wt_bd x2
  have k10 : (31 : Int32).toInt = 31 := by decide
  have b11 := wt_bd (x2 &&& 31)
  have b12 := wt_bd (q3.1 >>> (x2 &&& 31))
  have k13 : (1 : Int32).toInt = 1 := by decide
  have b14 := wt_bd ((q3.1 >>> (x2 &&& 31)) &&& (1 : Int32))
  have k15 : (0 : Int32).toInt = 0 := by decide
  refine wt_T_if (fun h16 => ?_) (fun h16 => ?_)
  · skip
    have c17 := wt_ceq h16
    refine wt_T_some ?_
    exact rfl
  · skip
    have c18 := wt_nceq h16
    refine wt_T_some ?_
    exact rfl
set_option maxRecDepth 100000 in
set_option maxHeartbeats 4000000 in
theorem wq_rw_mayFollow (n : Nat) (hn : 4294967297 < n) (x1 : Int32) (x2 : Int32) (σ : wt_St) : wt_T (wp_rw_mayFollow n x1 x2 σ) (fun q => q.2 = σ) := by
  unfold wp_rw_mayFollow
  have b1 := wt_bd x1
  have k2 : (-1 : Int32).toInt = -1 := by decide
  refine wt_T_if (fun h3 => ?_) (fun h3 => ?_)
  · skip
    have c4 := wt_ceq h3
    refine wt_T_some ?_
    exact rfl
  · skip
    have c5 := wt_nceq h3
    have b6 := wt_bd n
    refine wt_T_bi (wq_ap_look n hn 23 x1 σ) (fun q7 h8 => ?_)
    obtain ⟨e9, e9v⟩ := h8
    have e10 := wt_ceq e9v
    have b11 := wt_bd (wt_lk 23 x1 σ)
    have b12 := wt_bd q7.1
    rw [e9]
    have b13 := wt_bd x2
    refine wt_T_bi (wq_ap_look n hn 23 x2 σ) (fun q14 h15 => ?_)
    obtain ⟨e16, e16v⟩ := h15
    have e17 := wt_ceq e16v
    have b18 := wt_bd (wt_lk 23 x2 σ)
    have b19 := wt_bd q14.1
    rw [e16]
    refine wt_T_bi (wq_ld_mayFollow n hn 4 q7.1 q14.1 σ) (fun q20 h21 => ?_)
    have e22 := h21
    rw [e22]
    have b23 := wt_bd q20.1
    have k24 : (0 : Int32).toInt = 0 := by decide
    refine wt_T_if (fun h25 => ?_) (fun h25 => ?_)
    · skip
      have c26 := wt_ceq h25
      refine wt_T_some ?_
      exact rfl
    · skip
      have c27 := wt_nceq h25
      refine wt_T_some ?_
      exact rfl
set_option maxRecDepth 100000 in
set_option maxHeartbeats 4000000 in
theorem wq_rw_priceOf (n : Nat) (hn : 4294967297 < n) (x1 : Int32) (σ : wt_St) : wt_T (wp_rw_priceOf n x1 σ) (fun q => q.2 = σ) := by
  unfold wp_rw_priceOf
  have k6 : (0 : Int32).toInt = 0 := by decide
  refine wt_T_it (fun s : Int32 × Int32 × wt_St => s.2.2 = σ ∧ 0 ≤ (s.2.1).toInt) (fun s : Int32 × Int32 × wt_St => ((wt_lk 22 x1 s.2.2).toInt - s.2.1.toInt + 0).toNat) (fun K1 s2 I3 hK1 => ?_) _ _ ?_ ?_
  · skip
    obtain ⟨l4, l5⟩ := I3
    unfold wp_rw_priceOf_B4
    rw [l4]
    have b7 := wt_bd (wt_lk 22 x1 σ)
    have b8 := wt_bd s2.2.1
    have b9 := wt_bd n
    have b10 := wt_bd x1
    refine wt_T_bi (wq_ap_look n hn 22 x1 σ) (fun q11 h12 => ?_)
    obtain ⟨e13, e13v⟩ := h12
    have e14 := wt_ceq e13v
    have b15 := wt_bd q11.1
    rw [e13]
    refine wt_T_if (fun h16 => ?_) (fun h16 => ?_)
    · skip
      have c17 := wt_cle h16
      refine wt_T_some ?_
      exact rfl
    · skip
      have c18 := wt_ncle h16
      refine wt_T_bi (wq_tg_letterAt n hn 20 x1 s2.2.1 σ) (fun q19 h20 => ?_)
      have e21 := h20
      rw [e21]
      have b22 := wt_bd q19.1
      refine wt_T_bi (wq_ap_look n hn 9 q19.1 σ) (fun q23 h24 => ?_)
      obtain ⟨e25, e25v⟩ := h24
      have e26 := wt_ceq e25v
      have b27 := wt_bd (wt_lk 9 q19.1 σ)
      have b28 := wt_bd q23.1
      rw [e25]
      have b29 := wt_bd s2.1
      obtain ⟨j30, j30a, j30b⟩ := wt_addI s2.1 q23.1
      have k31 : (1 : Int32).toInt = 1 := by decide
      obtain ⟨j32, j32a, j32b⟩ := wt_addI s2.2.1 (1 : Int32)
      refine hK1 _ ⟨rfl, (by (try dsimp only); omega)⟩ ?_
      (try dsimp only); omega
  · skip
    have b33 := wt_bd (wt_lk 22 x1 σ)
    exact ⟨rfl, (by (try dsimp only); omega)⟩
  · skip
    have b34 := wt_bd (wt_lk 22 x1 σ)
    (try dsimp only); omega
set_option maxRecDepth 100000 in
set_option maxHeartbeats 4000000 in
theorem wq_tg_firstLike (n : Nat) (hn : 4294967297 < n) (t0 : Nat) (x1 : Int32) (σ : wt_St) : wt_T (wp_tg_firstLike n t0 x1 σ) (fun q => q.2 = σ) := by
  unfold wp_tg_firstLike
  have b1 := wt_bd n
  have b2 := wt_bd x1
  refine wt_T_bi (wq_ap_look n hn (t0 + 4) x1 σ) (fun q3 h4 => ?_)
  obtain ⟨e5, e5v⟩ := h4
  have e6 := wt_ceq e5v
  have b7 := wt_bd (wt_lk (t0 + 4) x1 σ)
  have b8 := wt_bd q3.1
  rw [e5]
  refine wt_T_bi (wq_ap_look n hn (t0 + 5) q3.1 σ) (fun q9 h10 => ?_)
  obtain ⟨e11, e11v⟩ := h10
  have e12 := wt_ceq e11v
  have b13 := wt_bd (wt_lk (t0 + 5) q3.1 σ)
  have b14 := wt_bd q9.1
  rw [e11]
  refine wt_T_some ?_
  exact rfl
set_option maxRecDepth 100000 in
set_option maxHeartbeats 4000000 in
theorem wq_rw_found (n : Nat) (hn : 4294967297 < n) (x1 : Int32) (x2 : Int32) (x3 : Int32) (σ : wt_St) : wt_T (wp_rw_found n x1 x2 x3 σ) (fun q => q.2 = σ) := by
  unfold wp_rw_found
  have b1 := wt_bd (wt_gf σ 81 9)
  have k2 : (-1 : Int32).toInt = -1 := by decide
  refine wt_T_if (fun h3 => ?_) (fun h3 => ?_)
  · skip
    have c4 := wt_ceq h3
    unfold wp_rw_found_B12
    refine wt_T_some ?_
    exact rfl
  · skip
    have c5 := wt_nceq h3
    have b6 := wt_bd x3
    have k7 : (0 : Int32).toInt = 0 := by decide
    refine wt_T_if (fun h8 => ?_) (fun h8 => ?_)
    · skip
      have c9 := wt_ceq h8
      unfold wp_rw_found_B12
      refine wt_T_some ?_
      exact rfl
    · skip
      have c10 := wt_nceq h8
      have b11 := wt_bd x2
      refine wt_T_if (fun h12 => ?_) (fun h12 => ?_)
      · skip
        have c13 := wt_clt h12
        refine wt_T_some ?_
        exact rfl
      · skip
        have c14 := wt_ncl h12
        have b15 := wt_bd n
        have b16 := wt_bd x1
        refine wt_T_bi (wq_tx_lengthOf n hn x1 σ) (fun q17 h18 => ?_)
        obtain ⟨e19, e19v⟩ := h18
        have e20 := wt_ceq e19v
        have b21 := wt_bd (wt_lk 36 x1 σ)
        have b22 := wt_bd q17.1
        rw [e19]
        refine wt_T_if (fun h23 => ?_) (fun h23 => ?_)
        · skip
          have c24 := wt_cle h23
          refine wt_T_some ?_
          exact rfl
        · skip
          have c25 := wt_ncle h23
          refine wt_T_bi (wq_ap_look n hn 85 x2 σ) (fun q26 h27 => ?_)
          obtain ⟨e28, e28v⟩ := h27
          have e29 := wt_ceq e28v
          have b30 := wt_bd (wt_lk 85 x2 σ)
          have b31 := wt_bd q26.1
          rw [e28]
          refine wt_T_some ?_
          exact rfl
set_option maxRecDepth 100000 in
set_option maxHeartbeats 4000000 in
theorem wq_rw_tooMany (n : Nat) (hn : 4294967297 < n) (x1 : Int32) (σ : wt_St) : wt_T (wp_rw_tooMany n x1 σ) (fun q => q.2 = σ) := by
  unfold wp_rw_tooMany
  have k6 : (1 : Int32).toInt = 1 := by decide
  have k7 : (0 : Int32).toInt = 0 := by decide
  refine wt_T_it (fun s : Int32 × Int32 × wt_St => s.2.2 = σ ∧ 0 ≤ (s.2.1).toInt) (fun s : Int32 × Int32 × wt_St => ((wt_lk 36 x1 s.2.2).toInt - s.2.1.toInt + 0).toNat) (fun K1 s2 I3 hK1 => ?_) _ _ ?_ ?_
  · skip
    obtain ⟨l4, l5⟩ := I3
    unfold wp_rw_tooMany_B4
    rw [l4]
    have b8 := wt_bd (wt_lk 36 x1 σ)
    have b9 := wt_bd s2.2.1
    have b10 := wt_bd n
    have b11 := wt_bd x1
    refine wt_T_bi (wq_tx_lengthOf n hn x1 σ) (fun q12 h13 => ?_)
    obtain ⟨e14, e14v⟩ := h13
    have e15 := wt_ceq e14v
    have b16 := wt_bd q12.1
    rw [e14]
    refine wt_T_if (fun h17 => ?_) (fun h17 => ?_)
    · skip
      have c18 := wt_cle h17
      refine wt_T_some ?_
      exact rfl
    · skip
      have c19 := wt_ncle h17
      refine wt_T_bi (wq_tx_wordAt n hn x1 s2.2.1 σ) (fun q20 h21 => ?_)
      have e22 := h21
      rw [e22]
      have b23 := wt_bd q20.1
      refine wt_T_bi (wq_tg_membersLike n hn 20 q20.1 σ) (fun q24 h25 => ?_)
      obtain ⟨e26, e26v⟩ := h25
      have e27 := wt_ceq e26v
      have b28 := wt_bd (wt_lk2 26 24 q20.1 σ)
      have b29 := wt_bd q24.1
      rw [e26]
      have b30 := wt_bd s2.1
      obtain ⟨j31, j31a, j31b⟩ := wt_mulI s2.1 q24.1
      have k32 : (4096 : Int32).toInt = 4096 := by decide
      refine wt_T_if (fun h33 => ?_) (fun h33 => ?_)
      · skip
        have c34 := wt_cle h33
        obtain ⟨j35, j35a, j35b⟩ := wt_addI s2.2.1 (1 : Int32)
        refine hK1 _ ⟨rfl, (by (try dsimp only); omega)⟩ ?_
        (try dsimp only); omega
      · skip
        have c36 := wt_ncle h33
        refine wt_T_some ?_
        exact rfl
  · skip
    have b37 := wt_bd (wt_lk 36 x1 σ)
    exact ⟨rfl, (by (try dsimp only); omega)⟩
  · skip
    have b38 := wt_bd (wt_lk 36 x1 σ)
    (try dsimp only); omega
set_option maxRecDepth 100000 in
set_option maxHeartbeats 4000000 in
theorem wq_ap_forget (n : Nat) (hn : 4294967297 < n) (σ : wt_St) : wt_T (wp_ap_forget n σ) (fun q => wt_fr (fun i k => (i = 39 ∧ k = 8)) (fun i => False) σ q.2) := by
  unfold wp_ap_forget
  obtain ⟨σ1, eσ1⟩ : ∃ z : wt_St, z = wt_sf σ 39 8 (0 : Int32) := ⟨_, rfl⟩
  rw [← eσ1]
  have fσ1 := wt_fr_sf eσ1
  have vσ1 := wt_ceq (wt_v_sf eσ1)
  have k2 : (0 : Int32).toInt = 0 := by decide
  refine wt_T_some ?_
  exact (wt_fr.tr wt_fr.rf fσ1 (fun i k h => by (try dsimp only at h); exact (by omega)) (fun i h => h.elim))
set_option maxRecDepth 100000 in
set_option maxHeartbeats 4000000 in
theorem wq_wk_printGreedily (n : Nat) (hn : 4294967297 < n) (x1 : Int32) (σ : wt_St) : wt_T (wp_wk_printGreedily n x1 σ) (fun q => wt_fr (fun i k => (i = 86 ∧ k = 8) ∨ (i = 86 ∧ k = 9)) (fun i => i = 99 ∨ i = 98 ∨ i = 100) σ q) := by
  unfold wp_wk_printGreedily
  have b1 := wt_bd n
  refine wt_T_bi (wq_wk_startGreedy n hn σ) (fun q2 h3 => ?_)
  have f4 := h3
  have k10 : (0 : Int32).toInt = 0 := by decide
  refine wt_T_it (fun s : Int32 × wt_St => wt_fr (fun i k => (i = 86 ∧ k = 8) ∨ (i = 86 ∧ k = 9)) (fun i => i = 100 ∨ i = 98) q2 s.2 ∧ 0 ≤ (s.1).toInt) (fun s : Int32 × wt_St => ((wt_gf s.2 39 8).toInt - s.1.toInt + 0).toNat) (fun K5 s6 I7 hK5 => ?_) _ _ ?_ ?_
  · skip
    obtain ⟨l8, l9⟩ := I7
    unfold wp_wk_printGreedily_B6
    have b11 := wt_bd (wt_gf s6.2 39 8)
    have t12 : (wt_gf s6.2 39 8).toInt = (wt_gf q2 39 8).toInt := congrArg Int32.toInt (l8.1 39 8 (by (try dsimp only); omega))
    have b13 := wt_bd (wt_gf q2 39 8)
    have t14 : (wt_gf q2 39 8).toInt = (wt_gf σ 39 8).toInt := congrArg Int32.toInt (f4.1 39 8 (by (try dsimp only); omega))
    have b15 := wt_bd (wt_gf σ 39 8)
    have b16 := wt_bd s6.1
    refine wt_T_if (fun h17 => ?_) (fun h17 => ?_)
    · skip
      have c18 := wt_cle h17
      refine wt_T_some ?_
      exact (wt_fr.tr (wt_fr.tr wt_fr.rf f4 (fun i k h => by (try dsimp only at h); rcases h with h | h; exact Or.inl (by omega); exact Or.inr ((by omega))) (fun i h => by (try dsimp only at h); rcases h with h | h; exact Or.inl (by omega); exact Or.inr (Or.inl (by omega)))) l8 (fun i k h => by (try dsimp only at h); rcases h with h | h; exact Or.inl (by omega); exact Or.inr ((by omega))) (fun i h => by (try dsimp only at h); rcases h with h | h; exact Or.inr (Or.inr ((by omega))); exact Or.inr (Or.inl (by omega))))
    · skip
      have c19 := wt_ncle h17
      refine wt_T_bi (wq_ap_look n hn 99 s6.1 s6.2) (fun q20 h21 => ?_)
      obtain ⟨e22, e22v⟩ := h21
      have e23 := wt_ceq e22v
      have b24 := wt_bd (wt_lk 99 s6.1 s6.2)
      have t25 : (wt_lk 99 s6.1 s6.2).toInt = (wt_lk 99 s6.1 q2).toInt := congrArg Int32.toInt (wt_lk_fr (l8.2 99 (by (try dsimp only); omega)))
      have b26 := wt_bd (wt_lk 99 s6.1 q2)
      have b27 := wt_bd q20.1
      rw [e22]
      refine wt_T_bi (wq_ap_look n hn 46 q20.1 s6.2) (fun q28 h29 => ?_)
      obtain ⟨e30, e30v⟩ := h29
      have e31 := wt_ceq e30v
      have b32 := wt_bd (wt_lk 46 q20.1 s6.2)
      have t33 : (wt_lk 46 q20.1 s6.2).toInt = (wt_lk 46 q20.1 q2).toInt := congrArg Int32.toInt (wt_lk_fr (l8.2 46 (by (try dsimp only); omega)))
      have b34 := wt_bd (wt_lk 46 q20.1 q2)
      have t35 : (wt_lk 46 q20.1 q2).toInt = (wt_lk 46 q20.1 σ).toInt := congrArg Int32.toInt (wt_lk_fr (f4.2 46 (by (try dsimp only); omega)))
      have b36 := wt_bd (wt_lk 46 q20.1 σ)
      have b37 := wt_bd q28.1
      rw [e30]
      have b38 := wt_bd x1
      refine wt_T_if (fun h39 => ?_) (fun h39 => ?_)
      · skip
        have c40 := wt_cle h39
        unfold wp_wk_printGreedily_B46
        have k41 : (1 : Int32).toInt = 1 := by decide
        obtain ⟨j42, j42a, j42b⟩ := wt_addI s6.1 (1 : Int32)
        refine hK5 _ ⟨(wt_fr.tr wt_fr.rf l8 (fun i k h => by (try dsimp only at h); rcases h with h | h; exact Or.inl (by omega); exact Or.inr ((by omega))) (fun i h => by (try dsimp only at h); rcases h with h | h; exact Or.inl (by omega); exact Or.inr ((by omega)))), (by (try dsimp only); omega)⟩ ?_
        (try dsimp only); omega
      · skip
        have c43 := wt_ncle h39
        refine wt_T_bi (wq_wk_printNext n hn q20.1 s6.2) (fun q44 h45 => ?_)
        have f46 := h45
        unfold wp_wk_printGreedily_B46
        have k47 : (1 : Int32).toInt = 1 := by decide
        obtain ⟨j48, j48a, j48b⟩ := wt_addI s6.1 (1 : Int32)
        have b49 := wt_bd (wt_gf q44 39 8)
        have t50 : (wt_gf q44 39 8).toInt = (wt_gf s6.2 39 8).toInt := congrArg Int32.toInt (f46.1 39 8 (by (try dsimp only); omega))
        refine hK5 _ ⟨(wt_fr.tr (wt_fr.tr wt_fr.rf l8 (fun i k h => by (try dsimp only at h); rcases h with h | h; exact Or.inl (by omega); exact Or.inr ((by omega))) (fun i h => by (try dsimp only at h); rcases h with h | h; exact Or.inl (by omega); exact Or.inr ((by omega)))) f46 (fun i k h => by (try dsimp only at h); rcases h with h | h; exact Or.inl (by omega); exact Or.inr ((by omega))) (fun i h => by (try dsimp only at h); rcases h with h | h; exact Or.inl (by omega); exact Or.inr ((by omega)))), (by (try dsimp only); omega)⟩ ?_
        (try dsimp only); omega
  · skip
    have b51 := wt_bd (wt_gf q2 39 8)
    have t52 : (wt_gf q2 39 8).toInt = (wt_gf σ 39 8).toInt := congrArg Int32.toInt (f4.1 39 8 (by (try dsimp only); omega))
    have b53 := wt_bd (wt_gf σ 39 8)
    exact ⟨wt_fr.rf, (by (try dsimp only); omega)⟩
  · skip
    have b54 := wt_bd (wt_gf q2 39 8)
    have t55 : (wt_gf q2 39 8).toInt = (wt_gf σ 39 8).toInt := congrArg Int32.toInt (f4.1 39 8 (by (try dsimp only); omega))
    have b56 := wt_bd (wt_gf σ 39 8)
    (try dsimp only); omega
set_option maxRecDepth 100000 in
set_option maxHeartbeats 4000000 in
theorem wq_st_become (n : Nat) (hn : 4294967297 < n) (t0 : Nat) (t1 : Nat) (σ : wt_St) : wt_T (wp_st_become n t0 t1 σ) (fun q => wt_fr (fun i k => (i = t0 ∧ k = 8) ∨ (i = t0 ∧ k = 9)) (fun i => i = t0 + 1 ∨ i = t0 + 2 ∨ i = t0 + 3 ∨ i = t0 + 4 ∨ i = t0 + 5 ∨ i = t0 + 6 ∨ i = t0 + 7 ∨ i = t0 + 8) σ q) := by
  unfold wp_st_become
  have b1 := wt_bd n
  refine wt_T_bi (wq_ap_copyRow n hn (t1 + 1) (t0 + 1) σ) (fun q2 h3 => ?_)
  have f4 := h3
  refine wt_T_bi (wq_ap_copyRow n hn (t1 + 2) (t0 + 2) q2) (fun q5 h6 => ?_)
  have f7 := h6
  refine wt_T_bi (wq_ap_copyRow n hn (t1 + 3) (t0 + 3) q5) (fun q8 h9 => ?_)
  have f10 := h9
  refine wt_T_bi (wq_ap_copyRow n hn (t1 + 4) (t0 + 4) q8) (fun q11 h12 => ?_)
  have f13 := h12
  refine wt_T_bi (wq_ap_copyRow n hn (t1 + 5) (t0 + 5) q11) (fun q14 h15 => ?_)
  have f16 := h15
  refine wt_T_bi (wq_ap_copyRow n hn (t1 + 6) (t0 + 6) q14) (fun q17 h18 => ?_)
  have f19 := h18
  refine wt_T_bi (wq_ap_copyRow n hn (t1 + 7) (t0 + 7) q17) (fun q20 h21 => ?_)
  have f22 := h21
  refine wt_T_bi (wq_ap_copyRow n hn (t1 + 8) (t0 + 8) q20) (fun q23 h24 => ?_)
  have f25 := h24
  obtain ⟨σ26, eσ26⟩ : ∃ z : wt_St, z = wt_sf q23 t0 8 (wt_gf q23 t1 8) := ⟨_, rfl⟩
  rw [← eσ26]
  have fσ26 := wt_fr_sf eσ26
  have vσ26 := wt_ceq (wt_v_sf eσ26)
  have b27 := wt_bd (wt_gf q23 t1 8)
  have t28 : (wt_gf q23 t1 8).toInt = (wt_gf q20 t1 8).toInt := congrArg Int32.toInt (f25.1 t1 8 (fun z => z))
  have b29 := wt_bd (wt_gf q20 t1 8)
  have t30 : (wt_gf q20 t1 8).toInt = (wt_gf q17 t1 8).toInt := congrArg Int32.toInt (f22.1 t1 8 (fun z => z))
  have b31 := wt_bd (wt_gf q17 t1 8)
  have t32 : (wt_gf q17 t1 8).toInt = (wt_gf q14 t1 8).toInt := congrArg Int32.toInt (f19.1 t1 8 (fun z => z))
  have b33 := wt_bd (wt_gf q14 t1 8)
  have t34 : (wt_gf q14 t1 8).toInt = (wt_gf q11 t1 8).toInt := congrArg Int32.toInt (f16.1 t1 8 (fun z => z))
  have b35 := wt_bd (wt_gf q11 t1 8)
  have t36 : (wt_gf q11 t1 8).toInt = (wt_gf q8 t1 8).toInt := congrArg Int32.toInt (f13.1 t1 8 (fun z => z))
  have b37 := wt_bd (wt_gf q8 t1 8)
  have t38 : (wt_gf q8 t1 8).toInt = (wt_gf q5 t1 8).toInt := congrArg Int32.toInt (f10.1 t1 8 (fun z => z))
  have b39 := wt_bd (wt_gf q5 t1 8)
  have t40 : (wt_gf q5 t1 8).toInt = (wt_gf q2 t1 8).toInt := congrArg Int32.toInt (f7.1 t1 8 (fun z => z))
  have b41 := wt_bd (wt_gf q2 t1 8)
  have t42 : (wt_gf q2 t1 8).toInt = (wt_gf σ t1 8).toInt := congrArg Int32.toInt (f4.1 t1 8 (fun z => z))
  have b43 := wt_bd (wt_gf σ t1 8)
  obtain ⟨σ44, eσ44⟩ : ∃ z : wt_St, z = wt_sf σ26 t0 9 (wt_gf σ26 t1 9) := ⟨_, rfl⟩
  rw [← eσ44]
  have fσ44 := wt_fr_sf eσ44
  have vσ44 := wt_ceq (wt_v_sf eσ44)
  have b45 := wt_bd (wt_gf σ26 t1 9)
  have t46 : (wt_gf σ26 t1 9).toInt = (wt_gf q23 t1 9).toInt := congrArg Int32.toInt (fσ26.1 t1 9 (by (try dsimp only); omega))
  have b47 := wt_bd (wt_gf q23 t1 9)
  have t48 : (wt_gf q23 t1 9).toInt = (wt_gf q20 t1 9).toInt := congrArg Int32.toInt (f25.1 t1 9 (fun z => z))
  have b49 := wt_bd (wt_gf q20 t1 9)
  have t50 : (wt_gf q20 t1 9).toInt = (wt_gf q17 t1 9).toInt := congrArg Int32.toInt (f22.1 t1 9 (fun z => z))
  have b51 := wt_bd (wt_gf q17 t1 9)
  have t52 : (wt_gf q17 t1 9).toInt = (wt_gf q14 t1 9).toInt := congrArg Int32.toInt (f19.1 t1 9 (fun z => z))
  have b53 := wt_bd (wt_gf q14 t1 9)
  have t54 : (wt_gf q14 t1 9).toInt = (wt_gf q11 t1 9).toInt := congrArg Int32.toInt (f16.1 t1 9 (fun z => z))
  have b55 := wt_bd (wt_gf q11 t1 9)
  have t56 : (wt_gf q11 t1 9).toInt = (wt_gf q8 t1 9).toInt := congrArg Int32.toInt (f13.1 t1 9 (fun z => z))
  have b57 := wt_bd (wt_gf q8 t1 9)
  have t58 : (wt_gf q8 t1 9).toInt = (wt_gf q5 t1 9).toInt := congrArg Int32.toInt (f10.1 t1 9 (fun z => z))
  have b59 := wt_bd (wt_gf q5 t1 9)
  have t60 : (wt_gf q5 t1 9).toInt = (wt_gf q2 t1 9).toInt := congrArg Int32.toInt (f7.1 t1 9 (fun z => z))
  have b61 := wt_bd (wt_gf q2 t1 9)
  have t62 : (wt_gf q2 t1 9).toInt = (wt_gf σ t1 9).toInt := congrArg Int32.toInt (f4.1 t1 9 (fun z => z))
  have b63 := wt_bd (wt_gf σ t1 9)
  refine wt_T_some ?_
  exact (wt_fr.tr (wt_fr.tr (wt_fr.tr (wt_fr.tr (wt_fr.tr (wt_fr.tr (wt_fr.tr (wt_fr.tr (wt_fr.tr (wt_fr.tr wt_fr.rf f4 (fun i k h => h.elim) (fun i h => by (try dsimp only at h); exact Or.inl (by omega))) f7 (fun i k h => h.elim) (fun i h => by (try dsimp only at h); exact Or.inr (Or.inl (by omega)))) f10 (fun i k h => h.elim) (fun i h => by (try dsimp only at h); exact Or.inr (Or.inr (Or.inl (by omega))))) f13 (fun i k h => h.elim) (fun i h => by (try dsimp only at h); exact Or.inr (Or.inr (Or.inr (Or.inl (by omega)))))) f16 (fun i k h => h.elim) (fun i h => by (try dsimp only at h); exact Or.inr (Or.inr (Or.inr (Or.inr (Or.inl (by omega))))))) f19 (fun i k h => h.elim) (fun i h => by (try dsimp only at h); exact Or.inr (Or.inr (Or.inr (Or.inr (Or.inr (Or.inl (by omega)))))))) f22 (fun i k h => h.elim) (fun i h => by (try dsimp only at h); exact Or.inr (Or.inr (Or.inr (Or.inr (Or.inr (Or.inr (Or.inl (by omega))))))))) f25 (fun i k h => h.elim) (fun i h => by (try dsimp only at h); exact Or.inr (Or.inr (Or.inr (Or.inr (Or.inr (Or.inr (Or.inr ((by omega)))))))))) fσ26 (fun i k h => by (try dsimp only at h); exact Or.inl (by omega)) (fun i h => h.elim)) fσ44 (fun i k h => by (try dsimp only at h); exact Or.inr ((by omega))) (fun i h => h.elim))
set_option maxRecDepth 100000 in
set_option maxHeartbeats 4000000 in
theorem wq_ap_image (n : Nat) (hn : 4294967297 < n) (σ : wt_St) : wt_T (wp_ap_image n σ) (fun q => wt_fr (fun i k => ((49 ≤ i ∧ i < 76) ∧ k = 8) ∨ ((49 ≤ i ∧ i < 76) ∧ k = 9) ∨ (i = 0 ∧ k = 14)) (fun i => (49 ≤ i ∧ i < 76)) σ q.2) := by
  unfold wp_ap_image
  have b1 := wt_bd (wt_gf σ 0 14)
  have k2 : (0 : Int32).toInt = 0 := by decide
  refine wt_T_if (fun h3 => ?_) (fun h3 => ?_)
  · skip
    have c4 := wt_clt h3
    refine wt_T_some ?_
    exact wt_fr.rf
  · skip
    have c5 := wt_ncl h3
    have k6 : (3 : Int32).toInt = 3 := by decide
    refine wt_T_if (fun h7 => ?_) (fun h7 => ?_)
    · skip
      have c8 := wt_clt h7
      refine wt_T_gd (wt_ix (by omega) (by omega)) ?_
      have b9 := wt_bd n
      have b10 := wt_tn (wt_gf σ 0 14)
      refine wt_T_bi (wq_st_become n hn (49 + (9 * (Int32.toNatClampNeg (wt_gf σ 0 14)))) 39 σ) (fun q11 h12 => ?_)
      have f13 := h12
      obtain ⟨σ14, eσ14⟩ : ∃ z : wt_St, z = wt_sf q11 0 14 ((wt_gf q11 0 14) + (1 : Int32)) := ⟨_, rfl⟩
      rw [← eσ14]
      have fσ14 := wt_fr_sf eσ14
      have vσ14 := wt_ceq (wt_v_sf eσ14)
      have b15 := wt_bd (wt_gf q11 0 14)
      have t16 : (wt_gf q11 0 14).toInt = (wt_gf σ 0 14).toInt := congrArg Int32.toInt (f13.1 0 14 (by (try dsimp only); omega))
      have k17 : (1 : Int32).toInt = 1 := by decide
      obtain ⟨j18, j18a, j18b⟩ := wt_addI (wt_gf q11 0 14) (1 : Int32)
      refine wt_T_some ?_
      exact (wt_fr.tr (wt_fr.tr wt_fr.rf f13 (fun i k h => by (try dsimp only at h); rcases h with h | h; exact Or.inl (by omega); exact Or.inr (Or.inl (by omega))) (fun i h => by (try dsimp only at h); exact (by omega))) fσ14 (fun i k h => by (try dsimp only at h); exact Or.inr (Or.inr ((by omega)))) (fun i h => h.elim))
    · skip
      have c19 := wt_ncl h7
      refine wt_T_some ?_
      exact wt_fr.rf
set_option maxRecDepth 100000 in
set_option maxHeartbeats 4000000 in
theorem wq_ld_become (n : Nat) (hn : 4294967297 < n) (t0 : Nat) (t1 : Nat) (σ : wt_St) : wt_T (wp_ld_become n t0 t1 σ) (fun q => wt_fr (fun i k => (i = t0 ∧ k = 7)) (fun i => i = t0 + 1 ∨ i = t0 + 2 ∨ i = t0 + 3 ∨ i = t0 + 4 ∨ i = t0 + 5 ∨ i = t0 + 6 ∨ i = t0 + 7) σ q) := by
  unfold wp_ld_become
  have b1 := wt_bd n
  refine wt_T_bi (wq_ap_copyRow n hn (t1 + 1) (t0 + 1) σ) (fun q2 h3 => ?_)
  have f4 := h3
  refine wt_T_bi (wq_ap_copyRow n hn (t1 + 2) (t0 + 2) q2) (fun q5 h6 => ?_)
  have f7 := h6
  refine wt_T_bi (wq_ap_copyRow n hn (t1 + 3) (t0 + 3) q5) (fun q8 h9 => ?_)
  have f10 := h9
  refine wt_T_bi (wq_ap_copyRow n hn (t1 + 4) (t0 + 4) q8) (fun q11 h12 => ?_)
  have f13 := h12
  refine wt_T_bi (wq_ap_copyRow n hn (t1 + 5) (t0 + 5) q11) (fun q14 h15 => ?_)
  have f16 := h15
  refine wt_T_bi (wq_ap_copyRow n hn (t1 + 6) (t0 + 6) q14) (fun q17 h18 => ?_)
  have f19 := h18
  refine wt_T_bi (wq_ap_copyRow n hn (t1 + 7) (t0 + 7) q17) (fun q20 h21 => ?_)
  have f22 := h21
  obtain ⟨σ23, eσ23⟩ : ∃ z : wt_St, z = wt_sf q20 t0 7 (wt_gf q20 t1 7) := ⟨_, rfl⟩
  rw [← eσ23]
  have fσ23 := wt_fr_sf eσ23
  have vσ23 := wt_ceq (wt_v_sf eσ23)
  have b24 := wt_bd (wt_gf q20 t1 7)
  have t25 : (wt_gf q20 t1 7).toInt = (wt_gf q17 t1 7).toInt := congrArg Int32.toInt (f22.1 t1 7 (fun z => z))
  have b26 := wt_bd (wt_gf q17 t1 7)
  have t27 : (wt_gf q17 t1 7).toInt = (wt_gf q14 t1 7).toInt := congrArg Int32.toInt (f19.1 t1 7 (fun z => z))
  have b28 := wt_bd (wt_gf q14 t1 7)
  have t29 : (wt_gf q14 t1 7).toInt = (wt_gf q11 t1 7).toInt := congrArg Int32.toInt (f16.1 t1 7 (fun z => z))
  have b30 := wt_bd (wt_gf q11 t1 7)
  have t31 : (wt_gf q11 t1 7).toInt = (wt_gf q8 t1 7).toInt := congrArg Int32.toInt (f13.1 t1 7 (fun z => z))
  have b32 := wt_bd (wt_gf q8 t1 7)
  have t33 : (wt_gf q8 t1 7).toInt = (wt_gf q5 t1 7).toInt := congrArg Int32.toInt (f10.1 t1 7 (fun z => z))
  have b34 := wt_bd (wt_gf q5 t1 7)
  have t35 : (wt_gf q5 t1 7).toInt = (wt_gf q2 t1 7).toInt := congrArg Int32.toInt (f7.1 t1 7 (fun z => z))
  have b36 := wt_bd (wt_gf q2 t1 7)
  have t37 : (wt_gf q2 t1 7).toInt = (wt_gf σ t1 7).toInt := congrArg Int32.toInt (f4.1 t1 7 (fun z => z))
  have b38 := wt_bd (wt_gf σ t1 7)
  refine wt_T_some ?_
  exact (wt_fr.tr (wt_fr.tr (wt_fr.tr (wt_fr.tr (wt_fr.tr (wt_fr.tr (wt_fr.tr (wt_fr.tr wt_fr.rf f4 (fun i k h => h.elim) (fun i h => by (try dsimp only at h); exact Or.inl (by omega))) f7 (fun i k h => h.elim) (fun i h => by (try dsimp only at h); exact Or.inr (Or.inl (by omega)))) f10 (fun i k h => h.elim) (fun i h => by (try dsimp only at h); exact Or.inr (Or.inr (Or.inl (by omega))))) f13 (fun i k h => h.elim) (fun i h => by (try dsimp only at h); exact Or.inr (Or.inr (Or.inr (Or.inl (by omega)))))) f16 (fun i k h => h.elim) (fun i h => by (try dsimp only at h); exact Or.inr (Or.inr (Or.inr (Or.inr (Or.inl (by omega))))))) f19 (fun i k h => h.elim) (fun i h => by (try dsimp only at h); exact Or.inr (Or.inr (Or.inr (Or.inr (Or.inr (Or.inl (by omega)))))))) f22 (fun i k h => h.elim) (fun i h => by (try dsimp only at h); exact Or.inr (Or.inr (Or.inr (Or.inr (Or.inr (Or.inr ((by omega))))))))) fσ23 (fun i k h => by (try dsimp only at h); exact (by omega)) (fun i h => h.elim))
set_option maxRecDepth 100000 in
set_option maxHeartbeats 4000000 in
theorem wq_ld_clear (n : Nat) (hn : 4294967297 < n) (t0 : Nat) (σ : wt_St) : wt_T (wp_ld_clear n t0 σ) (fun q => wt_fr (fun i k => (i = t0 ∧ k = 7)) (fun i => i = t0 + 1 ∨ i = t0 + 2 ∨ i = t0 + 3 ∨ i = t0 + 4 ∨ i = t0 + 5 ∨ i = t0 + 6 ∨ i = t0 + 7) σ q) := by
  unfold wp_ld_clear
  have b1 := wt_bd n
  have k2 : (0 : Int32).toInt = 0 := by decide
  refine wt_T_bi (wq_ap_fillRow n hn (t0 + 1) (0 : Int32) σ) (fun q3 h4 => ?_)
  have f5 := h4
  refine wt_T_bi (wq_ap_fillRow n hn (t0 + 2) (0 : Int32) q3) (fun q6 h7 => ?_)
  have f8 := h7
  refine wt_T_bi (wq_ap_fillRow n hn (t0 + 3) (0 : Int32) q6) (fun q9 h10 => ?_)
  have f11 := h10
  refine wt_T_bi (wq_ap_fillRow n hn (t0 + 4) (0 : Int32) q9) (fun q12 h13 => ?_)
  have f14 := h13
  have k15 : (1 : Int32).toInt = 1 := by decide
  refine wt_T_bi (wq_ap_fillRow n hn (t0 + 5) (1 : Int32) q12) (fun q16 h17 => ?_)
  have f18 := h17
  have k19 : (-1 : Int32).toInt = -1 := by decide
  refine wt_T_bi (wq_ap_fillRow n hn (t0 + 6) (-1 : Int32) q16) (fun q20 h21 => ?_)
  have f22 := h21
  refine wt_T_bi (wq_ap_fillRow n hn (t0 + 7) (0 : Int32) q20) (fun q23 h24 => ?_)
  have f25 := h24
  obtain ⟨σ26, eσ26⟩ : ∃ z : wt_St, z = wt_sf q23 t0 7 (0 : Int32) := ⟨_, rfl⟩
  rw [← eσ26]
  have fσ26 := wt_fr_sf eσ26
  have vσ26 := wt_ceq (wt_v_sf eσ26)
  refine wt_T_some ?_
  exact (wt_fr.tr (wt_fr.tr (wt_fr.tr (wt_fr.tr (wt_fr.tr (wt_fr.tr (wt_fr.tr (wt_fr.tr wt_fr.rf f5 (fun i k h => h.elim) (fun i h => by (try dsimp only at h); exact Or.inl (by omega))) f8 (fun i k h => h.elim) (fun i h => by (try dsimp only at h); exact Or.inr (Or.inl (by omega)))) f11 (fun i k h => h.elim) (fun i h => by (try dsimp only at h); exact Or.inr (Or.inr (Or.inl (by omega))))) f14 (fun i k h => h.elim) (fun i h => by (try dsimp only at h); exact Or.inr (Or.inr (Or.inr (Or.inl (by omega)))))) f18 (fun i k h => h.elim) (fun i h => by (try dsimp only at h); exact Or.inr (Or.inr (Or.inr (Or.inr (Or.inl (by omega))))))) f22 (fun i k h => h.elim) (fun i h => by (try dsimp only at h); exact Or.inr (Or.inr (Or.inr (Or.inr (Or.inr (Or.inl (by omega)))))))) f25 (fun i k h => h.elim) (fun i h => by (try dsimp only at h); exact Or.inr (Or.inr (Or.inr (Or.inr (Or.inr (Or.inr ((by omega))))))))) fσ26 (fun i k h => by (try dsimp only at h); exact (by omega)) (fun i h => h.elim))
set_option maxRecDepth 100000 in
set_option maxHeartbeats 4000000 in
theorem wq_tp_fail (n : Nat) (hn : 4294967297 < n) (x1 : Int32) (σ : wt_St) : wt_T (wp_tp_fail n x1 σ) (fun q => wt_fr (fun i k => (i = 1 ∧ k = 6) ∨ (i = 1 ∧ k = 7)) (fun i => False) σ q.2) := by
  unfold wp_tp_fail
  obtain ⟨σ1, eσ1⟩ : ∃ z : wt_St, z = wt_sf σ 1 6 x1 := ⟨_, rfl⟩
  rw [← eσ1]
  have fσ1 := wt_fr_sf eσ1
  have vσ1 := wt_ceq (wt_v_sf eσ1)
  have b2 := wt_bd x1
  obtain ⟨σ3, eσ3⟩ : ∃ z : wt_St, z = wt_sf σ1 1 7 (wt_gf σ1 1 5) := ⟨_, rfl⟩
  rw [← eσ3]
  have fσ3 := wt_fr_sf eσ3
  have vσ3 := wt_ceq (wt_v_sf eσ3)
  have b4 := wt_bd (wt_gf σ1 1 5)
  have t5 : (wt_gf σ1 1 5).toInt = (wt_gf σ 1 5).toInt := congrArg Int32.toInt (fσ1.1 1 5 (by (try dsimp only); omega))
  have b6 := wt_bd (wt_gf σ 1 5)
  refine wt_T_some ?_
  exact (wt_fr.tr (wt_fr.tr wt_fr.rf fσ1 (fun i k h => by (try dsimp only at h); exact Or.inl (by omega)) (fun i h => h.elim)) fσ3 (fun i k h => by (try dsimp only at h); exact Or.inr ((by omega))) (fun i h => h.elim))
set_option maxRecDepth 100000 in
set_option maxHeartbeats 4000000 in
theorem wq_tp_isDigit (n : Nat) (hn : 4294967297 < n) (x0 : Int32) (σ : wt_St) : wt_T (wp_tp_isDigit n x0 σ) (fun q => q.2 = σ) := by
  unfold wp_tp_isDigit
  have b1 := wt_bd x0
  have k2 : (48 : Int32).toInt = 48 := by decide
  refine wt_T_if (fun h3 => ?_) (fun h3 => ?_)
  · skip
    have c4 := wt_clt h3
    refine wt_T_some ?_
    exact rfl
  · skip
    have c5 := wt_ncl h3
    have k6 : (57 : Int32).toInt = 57 := by decide
    refine wt_T_if (fun h7 => ?_) (fun h7 => ?_)
    · skip
      have c8 := wt_clt h7
      refine wt_T_some ?_
      exact rfl
    · skip
      have c9 := wt_ncl h7
      refine wt_T_some ?_
      exact rfl
set_option maxRecDepth 100000 in
set_option maxHeartbeats 4000000 in
theorem wq_tp_skipBlanks (n : Nat) (hn : 4294967297 < n) (σ : wt_St) : wt_T (wp_tp_skipBlanks n σ) (fun q => wt_fr (fun i k => (i = 1 ∧ k = 5) ∨ (i = 1 ∧ k = 4)) (fun i => False) σ q) := by
  unfold wp_tp_skipBlanks
  refine wt_T_it (fun s : wt_St => wt_fr (fun i k => (i = 1 ∧ k = 4)) (fun i => False) σ s) (fun s : wt_St => ((wt_gf s 1 3).toInt - (wt_gf s 1 4).toInt + 0).toNat) (fun K1 s2 I3 hK1 => ?_) _ _ ?_ ?_
  · skip
    have l4 := I3
    unfold wp_tp_skipBlanks_B0
    have b5 := wt_bd (wt_gf s2 1 3)
    have t6 : (wt_gf s2 1 3).toInt = (wt_gf σ 1 3).toInt := congrArg Int32.toInt (l4.1 1 3 (by (try dsimp only); omega))
    have b7 := wt_bd (wt_gf σ 1 3)
    have b8 := wt_bd (wt_gf s2 1 4)
    refine wt_T_if (fun h9 => ?_) (fun h9 => ?_)
    · skip
      have c10 := wt_cle h9
      unfold wp_tp_skipBlanks_B40
      obtain ⟨σ11, eσ11⟩ : ∃ z : wt_St, z = wt_sf s2 1 5 (wt_gf s2 1 4) := ⟨_, rfl⟩
      rw [← eσ11]
      have fσ11 := wt_fr_sf eσ11
      have vσ11 := wt_ceq (wt_v_sf eσ11)
      refine wt_T_some ?_
      exact (wt_fr.tr (wt_fr.tr wt_fr.rf l4 (fun i k h => by (try dsimp only at h); exact Or.inr ((by omega))) (fun i h => h.elim)) fσ11 (fun i k h => by (try dsimp only at h); exact Or.inl (by omega)) (fun i h => h.elim))
    · skip
      have c12 := wt_ncle h9
      have b13 := wt_bd n
      refine wt_T_bi (wq_ap_look n hn 2 (wt_gf s2 1 4) s2) (fun q14 h15 => ?_)
      obtain ⟨e16, e16v⟩ := h15
      have e17 := wt_ceq e16v
      have b18 := wt_bd (wt_lk 2 (wt_gf s2 1 4) s2)
      have t19 : (wt_lk 2 (wt_gf s2 1 4) s2).toInt = (wt_lk 2 (wt_gf s2 1 4) σ).toInt := congrArg Int32.toInt (wt_lk_fr (l4.2 2 (fun z => z)))
      have b20 := wt_bd (wt_lk 2 (wt_gf s2 1 4) σ)
      have b21 := wt_bd q14.1
      rw [e16]
      have k22 : (32 : Int32).toInt = 32 := by decide
      refine wt_T_if (fun h23 => ?_) (fun h23 => ?_)
      · skip
        have c24 := wt_ceq h23
        obtain ⟨σ25, eσ25⟩ : ∃ z : wt_St, z = wt_sf s2 1 4 ((wt_gf s2 1 4) + (1 : Int32)) := ⟨_, rfl⟩
        rw [← eσ25]
        have fσ25 := wt_fr_sf eσ25
        have vσ25 := wt_ceq (wt_v_sf eσ25)
        have k26 : (1 : Int32).toInt = 1 := by decide
        obtain ⟨j27, j27a, j27b⟩ := wt_addI (wt_gf s2 1 4) (1 : Int32)
        have b28 := wt_bd (wt_gf σ25 1 3)
        have t29 : (wt_gf σ25 1 3).toInt = (wt_gf s2 1 3).toInt := congrArg Int32.toInt (fσ25.1 1 3 (by (try dsimp only); omega))
        have b30 := wt_bd (wt_gf σ25 1 4)
        refine hK1 _ (wt_fr.tr (wt_fr.tr wt_fr.rf l4 (fun i k h => by (try dsimp only at h); exact (by omega)) (fun i h => h.elim)) fσ25 (fun i k h => by (try dsimp only at h); exact (by omega)) (fun i h => h.elim)) ?_
        (try dsimp only); omega
      · skip
        have c31 := wt_nceq h23
        unfold wp_tp_skipBlanks_B40
        obtain ⟨σ32, eσ32⟩ : ∃ z : wt_St, z = wt_sf s2 1 5 (wt_gf s2 1 4) := ⟨_, rfl⟩
        rw [← eσ32]
        have fσ32 := wt_fr_sf eσ32
        have vσ32 := wt_ceq (wt_v_sf eσ32)
        refine wt_T_some ?_
        exact (wt_fr.tr (wt_fr.tr wt_fr.rf l4 (fun i k h => by (try dsimp only at h); exact Or.inr ((by omega))) (fun i h => h.elim)) fσ32 (fun i k h => by (try dsimp only at h); exact Or.inl (by omega)) (fun i h => h.elim))
  · skip
    have b33 := wt_bd (wt_gf σ 1 3)
    have b34 := wt_bd (wt_gf σ 1 4)
    exact wt_fr.rf
  · skip
    have b35 := wt_bd (wt_gf σ 1 3)
    have b36 := wt_bd (wt_gf σ 1 4)
    (try dsimp only); omega
set_option maxRecDepth 100000 in
set_option maxHeartbeats 4000000 in
theorem wq_tp_takeNumber (n : Nat) (hn : 4294967297 < n) (x1 : Int32) (x2 : Int32) (σ : wt_St) : wt_T (wp_tp_takeNumber n x1 x2 σ) (fun q => wt_fr (fun i k => (i = 1 ∧ k = 5) ∨ (i = 1 ∧ k = 4) ∨ (i = 1 ∧ k = 6) ∨ (i = 1 ∧ k = 7)) (fun i => False) σ q.2) := by
  unfold wp_tp_takeNumber
  have b1 := wt_bd n
  refine wt_T_bi (wq_tp_skipBlanks n hn σ) (fun q2 h3 => ?_)
  have f4 := h3
  have k9 : (0 : Int32).toInt = 0 := by decide
  refine wt_T_it (fun s : Int32 × wt_St => wt_fr (fun i k => (i = 1 ∧ k = 4)) (fun i => False) q2 s.2) (fun s : Int32 × wt_St => ((wt_gf s.2 1 3).toInt - (wt_gf s.2 1 4).toInt + 0).toNat) (fun K5 s6 I7 hK5 => ?_) _ _ ?_ ?_
  · skip
    have l8 := I7
    unfold wp_tp_takeNumber_B6
    have b10 := wt_bd (wt_gf s6.2 1 3)
    have t11 : (wt_gf s6.2 1 3).toInt = (wt_gf q2 1 3).toInt := congrArg Int32.toInt (l8.1 1 3 (by (try dsimp only); omega))
    have b12 := wt_bd (wt_gf q2 1 3)
    have t13 : (wt_gf q2 1 3).toInt = (wt_gf σ 1 3).toInt := congrArg Int32.toInt (f4.1 1 3 (by (try dsimp only); omega))
    have b14 := wt_bd (wt_gf σ 1 3)
    have b15 := wt_bd (wt_gf s6.2 1 4)
    refine wt_T_if (fun h16 => ?_) (fun h16 => ?_)
    · skip
      have c17 := wt_cle h16
      unfold wp_tp_takeNumber_B72
      have b18 := wt_bd (wt_gf s6.2 1 5)
      have t19 : (wt_gf s6.2 1 5).toInt = (wt_gf q2 1 5).toInt := congrArg Int32.toInt (l8.1 1 5 (by (try dsimp only); omega))
      have b20 := wt_bd (wt_gf q2 1 5)
      refine wt_T_if (fun h21 => ?_) (fun h21 => ?_)
      · skip
        have c22 := wt_ceq h21
        have k23 : (1 : Int32).toInt = 1 := by decide
        refine wt_T_bi (wq_tp_fail n hn (1 : Int32) s6.2) (fun q24 h25 => ?_)
        have f26 := h25
        refine wt_T_some ?_
        exact (wt_fr.tr (wt_fr.tr (wt_fr.tr wt_fr.rf f4 (fun i k h => by (try dsimp only at h); rcases h with h | h; exact Or.inl (by omega); exact Or.inr (Or.inl (by omega))) (fun i h => h.elim)) l8 (fun i k h => by (try dsimp only at h); exact Or.inr (Or.inl (by omega))) (fun i h => h.elim)) f26 (fun i k h => by (try dsimp only at h); rcases h with h | h; exact Or.inr (Or.inr (Or.inl (by omega))); exact Or.inr (Or.inr (Or.inr ((by omega))))) (fun i h => h.elim))
      · skip
        have c27 := wt_nceq h21
        have b28 := wt_bd s6.1
        have b29 := wt_bd x1
        refine wt_T_if (fun h30 => ?_) (fun h30 => ?_)
        · skip
          have c31 := wt_clt h30
          unfold wp_tp_takeNumber_B101
          have k32 : (2 : Int32).toInt = 2 := by decide
          refine wt_T_bi (wq_tp_fail n hn (2 : Int32) s6.2) (fun q33 h34 => ?_)
          have f35 := h34
          refine wt_T_some ?_
          exact (wt_fr.tr (wt_fr.tr (wt_fr.tr wt_fr.rf f4 (fun i k h => by (try dsimp only at h); rcases h with h | h; exact Or.inl (by omega); exact Or.inr (Or.inl (by omega))) (fun i h => h.elim)) l8 (fun i k h => by (try dsimp only at h); exact Or.inr (Or.inl (by omega))) (fun i h => h.elim)) f35 (fun i k h => by (try dsimp only at h); rcases h with h | h; exact Or.inr (Or.inr (Or.inl (by omega))); exact Or.inr (Or.inr (Or.inr ((by omega))))) (fun i h => h.elim))
        · skip
          have c36 := wt_ncl h30
          have b37 := wt_bd x2
          refine wt_T_if (fun h38 => ?_) (fun h38 => ?_)
          · skip
            have c39 := wt_cle h38
            refine wt_T_some ?_
            exact (wt_fr.tr (wt_fr.tr wt_fr.rf f4 (fun i k h => by (try dsimp only at h); rcases h with h | h; exact Or.inl (by omega); exact Or.inr (Or.inl (by omega))) (fun i h => h.elim)) l8 (fun i k h => by (try dsimp only at h); exact Or.inr (Or.inl (by omega))) (fun i h => h.elim))
          · skip
            have c40 := wt_ncle h38
            unfold wp_tp_takeNumber_B101
            have k41 : (2 : Int32).toInt = 2 := by decide
            refine wt_T_bi (wq_tp_fail n hn (2 : Int32) s6.2) (fun q42 h43 => ?_)
            have f44 := h43
            refine wt_T_some ?_
            exact (wt_fr.tr (wt_fr.tr (wt_fr.tr wt_fr.rf f4 (fun i k h => by (try dsimp only at h); rcases h with h | h; exact Or.inl (by omega); exact Or.inr (Or.inl (by omega))) (fun i h => h.elim)) l8 (fun i k h => by (try dsimp only at h); exact Or.inr (Or.inl (by omega))) (fun i h => h.elim)) f44 (fun i k h => by (try dsimp only at h); rcases h with h | h; exact Or.inr (Or.inr (Or.inl (by omega))); exact Or.inr (Or.inr (Or.inr ((by omega))))) (fun i h => h.elim))
    · skip
      have c45 := wt_ncle h16
      refine wt_T_bi (wq_ap_look n hn 2 (wt_gf s6.2 1 4) s6.2) (fun q46 h47 => ?_)
      obtain ⟨e48, e48v⟩ := h47
      have e49 := wt_ceq e48v
      have b50 := wt_bd (wt_lk 2 (wt_gf s6.2 1 4) s6.2)
      have t51 : (wt_lk 2 (wt_gf s6.2 1 4) s6.2).toInt = (wt_lk 2 (wt_gf s6.2 1 4) q2).toInt := congrArg Int32.toInt (wt_lk_fr (l8.2 2 (fun z => z)))
      have b52 := wt_bd (wt_lk 2 (wt_gf s6.2 1 4) q2)
      have t53 : (wt_lk 2 (wt_gf s6.2 1 4) q2).toInt = (wt_lk 2 (wt_gf s6.2 1 4) σ).toInt := congrArg Int32.toInt (wt_lk_fr (f4.2 2 (fun z => z)))
      have b54 := wt_bd (wt_lk 2 (wt_gf s6.2 1 4) σ)
      have b55 := wt_bd q46.1
      rw [e48]
      refine wt_T_bi (wq_tp_isDigit n hn q46.1 s6.2) (fun q56 h57 => ?_)
      have e58 := h57
      rw [e58]
      have b59 := wt_bd q56.1
      refine wt_T_if (fun h60 => ?_) (fun h60 => ?_)
      · skip
        have c61 := wt_ceq h60
        unfold wp_tp_takeNumber_B72
        have b62 := wt_bd (wt_gf s6.2 1 5)
        have t63 : (wt_gf s6.2 1 5).toInt = (wt_gf q2 1 5).toInt := congrArg Int32.toInt (l8.1 1 5 (by (try dsimp only); omega))
        have b64 := wt_bd (wt_gf q2 1 5)
        refine wt_T_if (fun h65 => ?_) (fun h65 => ?_)
        · skip
          have c66 := wt_ceq h65
          have k67 : (1 : Int32).toInt = 1 := by decide
          refine wt_T_bi (wq_tp_fail n hn (1 : Int32) s6.2) (fun q68 h69 => ?_)
          have f70 := h69
          refine wt_T_some ?_
          exact (wt_fr.tr (wt_fr.tr (wt_fr.tr wt_fr.rf f4 (fun i k h => by (try dsimp only at h); rcases h with h | h; exact Or.inl (by omega); exact Or.inr (Or.inl (by omega))) (fun i h => h.elim)) l8 (fun i k h => by (try dsimp only at h); exact Or.inr (Or.inl (by omega))) (fun i h => h.elim)) f70 (fun i k h => by (try dsimp only at h); rcases h with h | h; exact Or.inr (Or.inr (Or.inl (by omega))); exact Or.inr (Or.inr (Or.inr ((by omega))))) (fun i h => h.elim))
        · skip
          have c71 := wt_nceq h65
          have b72 := wt_bd s6.1
          have b73 := wt_bd x1
          refine wt_T_if (fun h74 => ?_) (fun h74 => ?_)
          · skip
            have c75 := wt_clt h74
            unfold wp_tp_takeNumber_B101
            have k76 : (2 : Int32).toInt = 2 := by decide
            refine wt_T_bi (wq_tp_fail n hn (2 : Int32) s6.2) (fun q77 h78 => ?_)
            have f79 := h78
            refine wt_T_some ?_
            exact (wt_fr.tr (wt_fr.tr (wt_fr.tr wt_fr.rf f4 (fun i k h => by (try dsimp only at h); rcases h with h | h; exact Or.inl (by omega); exact Or.inr (Or.inl (by omega))) (fun i h => h.elim)) l8 (fun i k h => by (try dsimp only at h); exact Or.inr (Or.inl (by omega))) (fun i h => h.elim)) f79 (fun i k h => by (try dsimp only at h); rcases h with h | h; exact Or.inr (Or.inr (Or.inl (by omega))); exact Or.inr (Or.inr (Or.inr ((by omega))))) (fun i h => h.elim))
          · skip
            have c80 := wt_ncl h74
            have b81 := wt_bd x2
            refine wt_T_if (fun h82 => ?_) (fun h82 => ?_)
            · skip
              have c83 := wt_cle h82
              refine wt_T_some ?_
              exact (wt_fr.tr (wt_fr.tr wt_fr.rf f4 (fun i k h => by (try dsimp only at h); rcases h with h | h; exact Or.inl (by omega); exact Or.inr (Or.inl (by omega))) (fun i h => h.elim)) l8 (fun i k h => by (try dsimp only at h); exact Or.inr (Or.inl (by omega))) (fun i h => h.elim))
            · skip
              have c84 := wt_ncle h82
              unfold wp_tp_takeNumber_B101
              have k85 : (2 : Int32).toInt = 2 := by decide
              refine wt_T_bi (wq_tp_fail n hn (2 : Int32) s6.2) (fun q86 h87 => ?_)
              have f88 := h87
              refine wt_T_some ?_
              exact (wt_fr.tr (wt_fr.tr (wt_fr.tr wt_fr.rf f4 (fun i k h => by (try dsimp only at h); rcases h with h | h; exact Or.inl (by omega); exact Or.inr (Or.inl (by omega))) (fun i h => h.elim)) l8 (fun i k h => by (try dsimp only at h); exact Or.inr (Or.inl (by omega))) (fun i h => h.elim)) f88 (fun i k h => by (try dsimp only at h); rcases h with h | h; exact Or.inr (Or.inr (Or.inl (by omega))); exact Or.inr (Or.inr (Or.inr ((by omega))))) (fun i h => h.elim))
      · skip
        have c89 := wt_nceq h60
        refine wt_T_bi (wq_ap_look n hn 2 (wt_gf s6.2 1 4) s6.2) (fun q90 h91 => ?_)
        obtain ⟨e92, e92v⟩ := h91
        have e93 := wt_ceq e92v
        have b94 := wt_bd q90.1
        rw [e92]
        obtain ⟨σ95, eσ95⟩ : ∃ z : wt_St, z = wt_sf s6.2 1 4 ((wt_gf s6.2 1 4) + (1 : Int32)) := ⟨_, rfl⟩
        rw [← eσ95]
        have fσ95 := wt_fr_sf eσ95
        have vσ95 := wt_ceq (wt_v_sf eσ95)
        have k96 : (1 : Int32).toInt = 1 := by decide
        obtain ⟨j97, j97a, j97b⟩ := wt_addI (wt_gf s6.2 1 4) (1 : Int32)
        have k98 : (1000000 : Int32).toInt = 1000000 := by decide
        have b99 := wt_bd s6.1
        have k100 : (10 : Int32).toInt = 10 := by decide
        obtain ⟨j101, j101a, j101b⟩ := wt_mulI s6.1 (10 : Int32)
        obtain ⟨j102, j102a, j102b⟩ := wt_addI (s6.1 * (10 : Int32)) q90.1
        have k103 : (48 : Int32).toInt = 48 := by decide
        obtain ⟨j104, j104a, j104b⟩ := wt_subI ((s6.1 * (10 : Int32)) + q90.1) (48 : Int32)
        have b105 := wt_bd (if (1000000 : Int32) < (((s6.1 * (10 : Int32)) + q90.1) - (48 : Int32)) then (1000000 : Int32) else ((s6.1 * (10 : Int32)) + q90.1) - (48 : Int32))
        have i106 : (((1000000 : Int32) < (((s6.1 * (10 : Int32)) + q90.1) - (48 : Int32))) ∧ (if (1000000 : Int32) < (((s6.1 * (10 : Int32)) + q90.1) - (48 : Int32)) then (1000000 : Int32) else ((s6.1 * (10 : Int32)) + q90.1) - (48 : Int32)) = (1000000 : Int32)) ∨ (¬ ((1000000 : Int32) < (((s6.1 * (10 : Int32)) + q90.1) - (48 : Int32))) ∧ (if (1000000 : Int32) < (((s6.1 * (10 : Int32)) + q90.1) - (48 : Int32)) then (1000000 : Int32) else ((s6.1 * (10 : Int32)) + q90.1) - (48 : Int32)) = ((s6.1 * (10 : Int32)) + q90.1) - (48 : Int32)) := by
          by_cases h : (1000000 : Int32) < (((s6.1 * (10 : Int32)) + q90.1) - (48 : Int32))
          · exact Or.inl ⟨h, if_pos h⟩
          · exact Or.inr ⟨h, if_neg h⟩
        have i107 : ((1000000 : Int32).toInt < (((s6.1 * (10 : Int32)) + q90.1) - (48 : Int32)).toInt ∧ (if (1000000 : Int32) < (((s6.1 * (10 : Int32)) + q90.1) - (48 : Int32)) then (1000000 : Int32) else ((s6.1 * (10 : Int32)) + q90.1) - (48 : Int32)).toInt = (1000000 : Int32).toInt) ∨ ((((s6.1 * (10 : Int32)) + q90.1) - (48 : Int32)).toInt ≤ (1000000 : Int32).toInt ∧ (if (1000000 : Int32) < (((s6.1 * (10 : Int32)) + q90.1) - (48 : Int32)) then (1000000 : Int32) else ((s6.1 * (10 : Int32)) + q90.1) - (48 : Int32)).toInt = (((s6.1 * (10 : Int32)) + q90.1) - (48 : Int32)).toInt) := i106.elim (fun h => Or.inl ⟨(wt_clt h.1), wt_ceq h.2⟩) (fun h => Or.inr ⟨(wt_ncl h.1), wt_ceq h.2⟩)
        have b108 := wt_bd (wt_gf σ95 1 3)
        have t109 : (wt_gf σ95 1 3).toInt = (wt_gf s6.2 1 3).toInt := congrArg Int32.toInt (fσ95.1 1 3 (by (try dsimp only); omega))
        have b110 := wt_bd (wt_gf σ95 1 4)
        refine hK5 _ (wt_fr.tr (wt_fr.tr wt_fr.rf l8 (fun i k h => by (try dsimp only at h); exact (by omega)) (fun i h => h.elim)) fσ95 (fun i k h => by (try dsimp only at h); exact (by omega)) (fun i h => h.elim)) ?_
        (try dsimp only); omega
  · skip
    have b111 := wt_bd (wt_gf q2 1 3)
    have t112 : (wt_gf q2 1 3).toInt = (wt_gf σ 1 3).toInt := congrArg Int32.toInt (f4.1 1 3 (by (try dsimp only); omega))
    have b113 := wt_bd (wt_gf σ 1 3)
    have b114 := wt_bd (wt_gf q2 1 4)
    exact wt_fr.rf
  · skip
    have b115 := wt_bd (wt_gf q2 1 3)
    have t116 : (wt_gf q2 1 3).toInt = (wt_gf σ 1 3).toInt := congrArg Int32.toInt (f4.1 1 3 (by (try dsimp only); omega))
    have b117 := wt_bd (wt_gf σ 1 3)
    have b118 := wt_bd (wt_gf q2 1 4)
    (try dsimp only); omega
set_option maxRecDepth 100000 in
set_option maxHeartbeats 4000000 in
theorem wq_ld_fillFaint (n : Nat) (hn : 4294967297 < n) (t0 : Nat) (σ : wt_St) : wt_T (wp_ld_fillFaint n t0 σ) (fun q => wt_fr (fun i k => (i = 1 ∧ k = 5) ∨ (i = 1 ∧ k = 4) ∨ (i = 1 ∧ k = 6) ∨ (i = 1 ∧ k = 7) ∨ (i = t0 ∧ k = 7)) (fun i => False) σ q.2) := by
  unfold wp_ld_fillFaint
  have b1 := wt_bd n
  have k2 : (0 : Int32).toInt = 0 := by decide
  have k3 : (99 : Int32).toInt = 99 := by decide
  refine wt_T_bi (wq_tp_takeNumber n hn (0 : Int32) (99 : Int32) σ) (fun q4 h5 => ?_)
  have f6 := h5
  have b7 := wt_bd q4.1
  have k8 : (-1 : Int32).toInt = -1 := by decide
  refine wt_T_if (fun h9 => ?_) (fun h9 => ?_)
  · skip
    have c10 := wt_ceq h9
    refine wt_T_some ?_
    exact (wt_fr.tr wt_fr.rf f6 (fun i k h => by (try dsimp only at h); rcases h with h | h | h | h; exact Or.inl (by omega); exact Or.inr (Or.inl (by omega)); exact Or.inr (Or.inr (Or.inl (by omega))); exact Or.inr (Or.inr (Or.inr (Or.inl (by omega))))) (fun i h => h.elim))
  · skip
    have c11 := wt_nceq h9
    obtain ⟨σ12, eσ12⟩ : ∃ z : wt_St, z = wt_sf q4.2 t0 7 q4.1 := ⟨_, rfl⟩
    rw [← eσ12]
    have fσ12 := wt_fr_sf eσ12
    have vσ12 := wt_ceq (wt_v_sf eσ12)
    refine wt_T_some ?_
    exact (wt_fr.tr (wt_fr.tr wt_fr.rf f6 (fun i k h => by (try dsimp only at h); rcases h with h | h | h | h; exact Or.inl (by omega); exact Or.inr (Or.inl (by omega)); exact Or.inr (Or.inr (Or.inl (by omega))); exact Or.inr (Or.inr (Or.inr (Or.inl (by omega))))) (fun i h => h.elim)) fσ12 (fun i k h => by (try dsimp only at h); exact Or.inr (Or.inr (Or.inr (Or.inr ((by omega)))))) (fun i h => h.elim))
set_option maxRecDepth 100000 in
set_option maxHeartbeats 4000000 in
theorem wq_ld_fillFollow (n : Nat) (hn : 4294967297 < n) (t0 : Nat) (σ : wt_St) : wt_T (wp_ld_fillFollow n t0 σ) (fun q => wt_fr (fun i k => (i = 1 ∧ k = 5) ∨ (i = 1 ∧ k = 4) ∨ (i = 1 ∧ k = 6) ∨ (i = 1 ∧ k = 7)) (fun i => i = t0 + 7) σ q.2) := by
  unfold wp_ld_fillFollow
  have b1 := wt_bd n
  have k2 : (0 : Int32).toInt = 0 := by decide
  have k3 : (3 : Int32).toInt = 3 := by decide
  refine wt_T_bi (wq_tp_takeNumber n hn (0 : Int32) (3 : Int32) σ) (fun q4 h5 => ?_)
  have f6 := h5
  have b7 := wt_bd q4.1
  have k8 : (-1 : Int32).toInt = -1 := by decide
  refine wt_T_if (fun h9 => ?_) (fun h9 => ?_)
  · skip
    have c10 := wt_ceq h9
    refine wt_T_some ?_
    exact (wt_fr.tr wt_fr.rf f6 (fun i k h => by (try dsimp only at h); rcases h with h | h | h | h; exact Or.inl (by omega); exact Or.inr (Or.inl (by omega)); exact Or.inr (Or.inr (Or.inl (by omega))); exact Or.inr (Or.inr (Or.inr ((by omega))))) (fun i h => h.elim))
  · skip
    have c11 := wt_nceq h9
    refine wt_T_bi (wq_tp_takeNumber n hn (0 : Int32) (3 : Int32) q4.2) (fun q12 h13 => ?_)
    have f14 := h13
    have b15 := wt_bd q12.1
    refine wt_T_if (fun h16 => ?_) (fun h16 => ?_)
    · skip
      have c17 := wt_ceq h16
      refine wt_T_some ?_
      exact (wt_fr.tr (wt_fr.tr wt_fr.rf f6 (fun i k h => by (try dsimp only at h); rcases h with h | h | h | h; exact Or.inl (by omega); exact Or.inr (Or.inl (by omega)); exact Or.inr (Or.inr (Or.inl (by omega))); exact Or.inr (Or.inr (Or.inr ((by omega))))) (fun i h => h.elim)) f14 (fun i k h => by (try dsimp only at h); rcases h with h | h | h | h; exact Or.inl (by omega); exact Or.inr (Or.inl (by omega)); exact Or.inr (Or.inr (Or.inl (by omega))); exact Or.inr (Or.inr (Or.inr ((by omega))))) (fun i h => h.elim))
    · skip
      have c18 := wt_nceq h16
      refine wt_T_bi (wq_ap_look n hn (t0 + 7) q4.1 q12.2) (fun q19 h20 => ?_)
      obtain ⟨e21, e21v⟩ := h20
      have e22 := wt_ceq e21v
      have b23 := wt_bd (wt_lk (t0 + 7) q4.1 q12.2)
      have t24 : (wt_lk (t0 + 7) q4.1 q12.2).toInt = (wt_lk (t0 + 7) q4.1 q4.2).toInt := congrArg Int32.toInt (wt_lk_fr (f14.2 (t0 + 7) (fun z => z)))
      have b25 := wt_bd (wt_lk (t0 + 7) q4.1 q4.2)
      have t26 : (wt_lk (t0 + 7) q4.1 q4.2).toInt = (wt_lk (t0 + 7) q4.1 σ).toInt := congrArg Int32.toInt (wt_lk_fr (f6.2 (t0 + 7) (fun z => z)))
      have b27 := wt_bd (wt_lk (t0 + 7) q4.1 σ)
      have b28 := wt_bd q19.1
      rw [e21]
      have k29 : (1 : Int32).toInt = 1 := by decide
      have k30 : (31 : Int32).toInt = 31 := by decide
      have b31 := wt_bd (q12.1 &&& 31)
      have b32 := wt_bd ((1 : Int32) <<< (q12.1 &&& 31))
      have b33 := wt_bd (q19.1 ||| ((1 : Int32) <<< (q12.1 &&& 31)))
      refine wt_T_bi (wq_ap_put n hn (t0 + 7) q4.1 (q19.1 ||| ((1 : Int32) <<< (q12.1 &&& 31))) q12.2) (fun q34 h35 => ?_)
      have f36 := h35
      refine wt_T_some ?_
      exact (wt_fr.tr (wt_fr.tr (wt_fr.tr wt_fr.rf f6 (fun i k h => by (try dsimp only at h); rcases h with h | h | h | h; exact Or.inl (by omega); exact Or.inr (Or.inl (by omega)); exact Or.inr (Or.inr (Or.inl (by omega))); exact Or.inr (Or.inr (Or.inr ((by omega))))) (fun i h => h.elim)) f14 (fun i k h => by (try dsimp only at h); rcases h with h | h | h | h; exact Or.inl (by omega); exact Or.inr (Or.inl (by omega)); exact Or.inr (Or.inr (Or.inl (by omega))); exact Or.inr (Or.inr (Or.inr ((by omega))))) (fun i h => h.elim)) f36 (fun i k h => h.elim) (fun i h => by (try dsimp only at h); exact (by omega)))
set_option maxRecDepth 100000 in
set_option maxHeartbeats 4000000 in
theorem wq_tp_isSmall (n : Nat) (hn : 4294967297 < n) (x0 : Int32) (σ : wt_St) : wt_T (wp_tp_isSmall n x0 σ) (fun q => q.2 = σ) := by
  unfold wp_tp_isSmall
  have b1 := wt_bd x0
  have k2 : (97 : Int32).toInt = 97 := by decide
  refine wt_T_if (fun h3 => ?_) (fun h3 => ?_)
  · skip
    have c4 := wt_clt h3
    refine wt_T_some ?_
    exact rfl
  · skip
    have c5 := wt_ncl h3
    have k6 : (122 : Int32).toInt = 122 := by decide
    refine wt_T_if (fun h7 => ?_) (fun h7 => ?_)
    · skip
      have c8 := wt_clt h7
      refine wt_T_some ?_
      exact rfl
    · skip
      have c9 := wt_ncl h7
      refine wt_T_some ?_
      exact rfl
set_option maxRecDepth 100000 in
set_option maxHeartbeats 4000000 in
theorem wq_tp_takeWord (n : Nat) (hn : 4294967297 < n) (σ : wt_St) : wt_T (wp_tp_takeWord n σ) (fun q => wt_fr (fun i k => (i = 1 ∧ k = 5) ∨ (i = 1 ∧ k = 4) ∨ (i = 1 ∧ k = 6) ∨ (i = 1 ∧ k = 7)) (fun i => i = 3) σ q.2) := by
  unfold wp_tp_takeWord
  have b1 := wt_bd n
  refine wt_T_bi (wq_tp_skipBlanks n hn σ) (fun q2 h3 => ?_)
  have f4 := h3
  have k9 : (0 : Int32).toInt = 0 := by decide
  refine wt_T_it (fun s : Int32 × wt_St => wt_fr (fun i k => (i = 1 ∧ k = 4)) (fun i => i = 3) q2 s.2) (fun s : Int32 × wt_St => ((wt_gf s.2 1 3).toInt - (wt_gf s.2 1 4).toInt + 0).toNat) (fun K5 s6 I7 hK5 => ?_) _ _ ?_ ?_
  · skip
    have l8 := I7
    unfold wp_tp_takeWord_B6
    have b10 := wt_bd (wt_gf s6.2 1 3)
    have t11 : (wt_gf s6.2 1 3).toInt = (wt_gf q2 1 3).toInt := congrArg Int32.toInt (l8.1 1 3 (by (try dsimp only); omega))
    have b12 := wt_bd (wt_gf q2 1 3)
    have t13 : (wt_gf q2 1 3).toInt = (wt_gf σ 1 3).toInt := congrArg Int32.toInt (f4.1 1 3 (by (try dsimp only); omega))
    have b14 := wt_bd (wt_gf σ 1 3)
    have b15 := wt_bd (wt_gf s6.2 1 4)
    refine wt_T_if (fun h16 => ?_) (fun h16 => ?_)
    · skip
      have c17 := wt_cle h16
      unfold wp_tp_takeWord_B72
      have b18 := wt_bd (wt_gf s6.2 1 5)
      have t19 : (wt_gf s6.2 1 5).toInt = (wt_gf q2 1 5).toInt := congrArg Int32.toInt (l8.1 1 5 (by (try dsimp only); omega))
      have b20 := wt_bd (wt_gf q2 1 5)
      refine wt_T_if (fun h21 => ?_) (fun h21 => ?_)
      · skip
        have c22 := wt_clt h21
        refine wt_T_some ?_
        exact (wt_fr.tr (wt_fr.tr wt_fr.rf f4 (fun i k h => by (try dsimp only at h); rcases h with h | h; exact Or.inl (by omega); exact Or.inr (Or.inl (by omega))) (fun i h => h.elim)) l8 (fun i k h => by (try dsimp only at h); exact Or.inr (Or.inl (by omega))) (fun i h => by (try dsimp only at h); exact (by omega)))
      · skip
        have c23 := wt_ncl h21
        have k24 : (1 : Int32).toInt = 1 := by decide
        refine wt_T_bi (wq_tp_fail n hn (1 : Int32) s6.2) (fun q25 h26 => ?_)
        have f27 := h26
        have b28 := wt_bd q25.1
        refine wt_T_if (fun h29 => ?_) (fun h29 => ?_)
        · skip
          have c30 := wt_ceq h29
          refine wt_T_some ?_
          exact (wt_fr.tr (wt_fr.tr (wt_fr.tr wt_fr.rf f4 (fun i k h => by (try dsimp only at h); rcases h with h | h; exact Or.inl (by omega); exact Or.inr (Or.inl (by omega))) (fun i h => h.elim)) l8 (fun i k h => by (try dsimp only at h); exact Or.inr (Or.inl (by omega))) (fun i h => by (try dsimp only at h); exact (by omega))) f27 (fun i k h => by (try dsimp only at h); rcases h with h | h; exact Or.inr (Or.inr (Or.inl (by omega))); exact Or.inr (Or.inr (Or.inr ((by omega))))) (fun i h => h.elim))
        · skip
          have c31 := wt_nceq h29
          refine wt_T_some ?_
          exact (wt_fr.tr (wt_fr.tr (wt_fr.tr wt_fr.rf f4 (fun i k h => by (try dsimp only at h); rcases h with h | h; exact Or.inl (by omega); exact Or.inr (Or.inl (by omega))) (fun i h => h.elim)) l8 (fun i k h => by (try dsimp only at h); exact Or.inr (Or.inl (by omega))) (fun i h => by (try dsimp only at h); exact (by omega))) f27 (fun i k h => by (try dsimp only at h); rcases h with h | h; exact Or.inr (Or.inr (Or.inl (by omega))); exact Or.inr (Or.inr (Or.inr ((by omega))))) (fun i h => h.elim))
    · skip
      have c32 := wt_ncle h16
      refine wt_T_bi (wq_ap_look n hn 2 (wt_gf s6.2 1 4) s6.2) (fun q33 h34 => ?_)
      obtain ⟨e35, e35v⟩ := h34
      have e36 := wt_ceq e35v
      have b37 := wt_bd (wt_lk 2 (wt_gf s6.2 1 4) s6.2)
      have t38 : (wt_lk 2 (wt_gf s6.2 1 4) s6.2).toInt = (wt_lk 2 (wt_gf s6.2 1 4) q2).toInt := congrArg Int32.toInt (wt_lk_fr (l8.2 2 (by (try dsimp only); omega)))
      have b39 := wt_bd (wt_lk 2 (wt_gf s6.2 1 4) q2)
      have t40 : (wt_lk 2 (wt_gf s6.2 1 4) q2).toInt = (wt_lk 2 (wt_gf s6.2 1 4) σ).toInt := congrArg Int32.toInt (wt_lk_fr (f4.2 2 (fun z => z)))
      have b41 := wt_bd (wt_lk 2 (wt_gf s6.2 1 4) σ)
      have b42 := wt_bd q33.1
      rw [e35]
      refine wt_T_bi (wq_tp_isSmall n hn q33.1 s6.2) (fun q43 h44 => ?_)
      have e45 := h44
      rw [e45]
      have b46 := wt_bd q43.1
      refine wt_T_if (fun h47 => ?_) (fun h47 => ?_)
      · skip
        have c48 := wt_ceq h47
        unfold wp_tp_takeWord_B72
        have b49 := wt_bd (wt_gf s6.2 1 5)
        have t50 : (wt_gf s6.2 1 5).toInt = (wt_gf q2 1 5).toInt := congrArg Int32.toInt (l8.1 1 5 (by (try dsimp only); omega))
        have b51 := wt_bd (wt_gf q2 1 5)
        refine wt_T_if (fun h52 => ?_) (fun h52 => ?_)
        · skip
          have c53 := wt_clt h52
          refine wt_T_some ?_
          exact (wt_fr.tr (wt_fr.tr wt_fr.rf f4 (fun i k h => by (try dsimp only at h); rcases h with h | h; exact Or.inl (by omega); exact Or.inr (Or.inl (by omega))) (fun i h => h.elim)) l8 (fun i k h => by (try dsimp only at h); exact Or.inr (Or.inl (by omega))) (fun i h => by (try dsimp only at h); exact (by omega)))
        · skip
          have c54 := wt_ncl h52
          have k55 : (1 : Int32).toInt = 1 := by decide
          refine wt_T_bi (wq_tp_fail n hn (1 : Int32) s6.2) (fun q56 h57 => ?_)
          have f58 := h57
          have b59 := wt_bd q56.1
          refine wt_T_if (fun h60 => ?_) (fun h60 => ?_)
          · skip
            have c61 := wt_ceq h60
            refine wt_T_some ?_
            exact (wt_fr.tr (wt_fr.tr (wt_fr.tr wt_fr.rf f4 (fun i k h => by (try dsimp only at h); rcases h with h | h; exact Or.inl (by omega); exact Or.inr (Or.inl (by omega))) (fun i h => h.elim)) l8 (fun i k h => by (try dsimp only at h); exact Or.inr (Or.inl (by omega))) (fun i h => by (try dsimp only at h); exact (by omega))) f58 (fun i k h => by (try dsimp only at h); rcases h with h | h; exact Or.inr (Or.inr (Or.inl (by omega))); exact Or.inr (Or.inr (Or.inr ((by omega))))) (fun i h => h.elim))
          · skip
            have c62 := wt_nceq h60
            refine wt_T_some ?_
            exact (wt_fr.tr (wt_fr.tr (wt_fr.tr wt_fr.rf f4 (fun i k h => by (try dsimp only at h); rcases h with h | h; exact Or.inl (by omega); exact Or.inr (Or.inl (by omega))) (fun i h => h.elim)) l8 (fun i k h => by (try dsimp only at h); exact Or.inr (Or.inl (by omega))) (fun i h => by (try dsimp only at h); exact (by omega))) f58 (fun i k h => by (try dsimp only at h); rcases h with h | h; exact Or.inr (Or.inr (Or.inl (by omega))); exact Or.inr (Or.inr (Or.inr ((by omega))))) (fun i h => h.elim))
      · skip
        have c63 := wt_nceq h47
        refine wt_T_bi (wq_ap_look n hn 2 (wt_gf s6.2 1 4) s6.2) (fun q64 h65 => ?_)
        obtain ⟨e66, e66v⟩ := h65
        have e67 := wt_ceq e66v
        have b68 := wt_bd q64.1
        rw [e66]
        have b69 := wt_bd s6.1
        have k70 : (97 : Int32).toInt = 97 := by decide
        obtain ⟨j71, j71a, j71b⟩ := wt_subI q64.1 (97 : Int32)
        refine wt_T_bi (wq_ap_put n hn 3 s6.1 (q64.1 - (97 : Int32)) s6.2) (fun q72 h73 => ?_)
        have f74 := h73
        obtain ⟨σ75, eσ75⟩ : ∃ z : wt_St, z = wt_sf q72 1 4 ((wt_gf q72 1 4) + (1 : Int32)) := ⟨_, rfl⟩
        rw [← eσ75]
        have fσ75 := wt_fr_sf eσ75
        have vσ75 := wt_ceq (wt_v_sf eσ75)
        have b76 := wt_bd (wt_gf q72 1 4)
        have t77 : (wt_gf q72 1 4).toInt = (wt_gf s6.2 1 4).toInt := congrArg Int32.toInt (f74.1 1 4 (fun z => z))
        have k78 : (1 : Int32).toInt = 1 := by decide
        obtain ⟨j79, j79a, j79b⟩ := wt_addI (wt_gf q72 1 4) (1 : Int32)
        obtain ⟨j80, j80a, j80b⟩ := wt_addI s6.1 (1 : Int32)
        have b81 := wt_bd (wt_gf σ75 1 3)
        have t82 : (wt_gf σ75 1 3).toInt = (wt_gf q72 1 3).toInt := congrArg Int32.toInt (fσ75.1 1 3 (by (try dsimp only); omega))
        have b83 := wt_bd (wt_gf q72 1 3)
        have t84 : (wt_gf q72 1 3).toInt = (wt_gf s6.2 1 3).toInt := congrArg Int32.toInt (f74.1 1 3 (fun z => z))
        have b85 := wt_bd (wt_gf σ75 1 4)
        refine hK5 _ (wt_fr.tr (wt_fr.tr (wt_fr.tr wt_fr.rf l8 (fun i k h => by (try dsimp only at h); exact (by omega)) (fun i h => by (try dsimp only at h); exact (by omega))) f74 (fun i k h => h.elim) (fun i h => by (try dsimp only at h); exact (by omega))) fσ75 (fun i k h => by (try dsimp only at h); exact (by omega)) (fun i h => h.elim)) ?_
        (try dsimp only); omega
  · skip
    have b86 := wt_bd (wt_gf q2 1 3)
    have t87 : (wt_gf q2 1 3).toInt = (wt_gf σ 1 3).toInt := congrArg Int32.toInt (f4.1 1 3 (by (try dsimp only); omega))
    have b88 := wt_bd (wt_gf σ 1 3)
    have b89 := wt_bd (wt_gf q2 1 4)
    exact wt_fr.rf
  · skip
    have b90 := wt_bd (wt_gf q2 1 3)
    have t91 : (wt_gf q2 1 3).toInt = (wt_gf σ 1 3).toInt := congrArg Int32.toInt (f4.1 1 3 (by (try dsimp only); omega))
    have b92 := wt_bd (wt_gf σ 1 3)
    have b93 := wt_bd (wt_gf q2 1 4)
    (try dsimp only); omega
set_option maxRecDepth 100000 in
set_option maxHeartbeats 4000000 in
theorem wq_tp_wordLength (n : Nat) (hn : 4294967297 < n) (σ : wt_St) : wt_T (wp_tp_wordLength n σ) (fun q => q.2 = σ) := by
  unfold wp_tp_wordLength
  refine wt_T_some ?_
  exact rfl
set_option maxRecDepth 100000 in
set_option maxHeartbeats 4000000 in
theorem wq_tp_takeLetter (n : Nat) (hn : 4294967297 < n) (σ : wt_St) : wt_T (wp_tp_takeLetter n σ) (fun q => wt_fr (fun i k => (i = 1 ∧ k = 5) ∨ (i = 1 ∧ k = 4) ∨ (i = 1 ∧ k = 6) ∨ (i = 1 ∧ k = 7)) (fun i => i = 3) σ q.2) := by
  unfold wp_tp_takeLetter
  have b1 := wt_bd n
  refine wt_T_bi (wq_tp_takeWord n hn σ) (fun q2 h3 => ?_)
  have f4 := h3
  have b5 := wt_bd q2.1
  have k6 : (0 : Int32).toInt = 0 := by decide
  refine wt_T_if (fun h7 => ?_) (fun h7 => ?_)
  · skip
    have c8 := wt_ceq h7
    refine wt_T_some ?_
    exact (wt_fr.tr wt_fr.rf f4 (fun i k h => by (try dsimp only at h); rcases h with h | h | h | h; exact Or.inl (by omega); exact Or.inr (Or.inl (by omega)); exact Or.inr (Or.inr (Or.inl (by omega))); exact Or.inr (Or.inr (Or.inr ((by omega))))) (fun i h => by (try dsimp only at h); exact (by omega)))
  · skip
    have c9 := wt_nceq h7
    refine wt_T_bi (wq_tp_wordLength n hn q2.2) (fun q10 h11 => ?_)
    have e12 := h11
    rw [e12]
    have b13 := wt_bd q10.1
    have k14 : (1 : Int32).toInt = 1 := by decide
    refine wt_T_if (fun h15 => ?_) (fun h15 => ?_)
    · skip
      have c16 := wt_cle h15
      refine wt_T_bi (wq_ap_look n hn 3 (0 : Int32) q2.2) (fun q17 h18 => ?_)
      obtain ⟨e19, e19v⟩ := h18
      have e20 := wt_ceq e19v
      have b21 := wt_bd (wt_lk 3 (0 : Int32) q2.2)
      have b22 := wt_bd q17.1
      rw [e19]
      refine wt_T_some ?_
      exact (wt_fr.tr wt_fr.rf f4 (fun i k h => by (try dsimp only at h); rcases h with h | h | h | h; exact Or.inl (by omega); exact Or.inr (Or.inl (by omega)); exact Or.inr (Or.inr (Or.inl (by omega))); exact Or.inr (Or.inr (Or.inr ((by omega))))) (fun i h => by (try dsimp only at h); exact (by omega)))
    · skip
      have c23 := wt_ncle h15
      have k24 : (2 : Int32).toInt = 2 := by decide
      refine wt_T_bi (wq_tp_fail n hn (2 : Int32) q2.2) (fun q25 h26 => ?_)
      have f27 := h26
      refine wt_T_some ?_
      exact (wt_fr.tr (wt_fr.tr wt_fr.rf f4 (fun i k h => by (try dsimp only at h); rcases h with h | h | h | h; exact Or.inl (by omega); exact Or.inr (Or.inl (by omega)); exact Or.inr (Or.inr (Or.inl (by omega))); exact Or.inr (Or.inr (Or.inr ((by omega))))) (fun i h => by (try dsimp only at h); exact (by omega))) f27 (fun i k h => by (try dsimp only at h); rcases h with h | h; exact Or.inr (Or.inr (Or.inl (by omega))); exact Or.inr (Or.inr (Or.inr ((by omega))))) (fun i h => h.elim))
set_option maxRecDepth 100000 in
set_option maxHeartbeats 4000000 in
theorem wq_ld_fillLike (n : Nat) (hn : 4294967297 < n) (t0 : Nat) (σ : wt_St) : wt_T (wp_ld_fillLike n t0 σ) (fun q => wt_fr (fun i k => (i = 1 ∧ k = 5) ∨ (i = 1 ∧ k = 4) ∨ (i = 1 ∧ k = 6) ∨ (i = 1 ∧ k = 7)) (fun i => i = 3 ∨ i = t0 + 6) σ q.2) := by
  unfold wp_ld_fillLike
  have b1 := wt_bd n
  refine wt_T_bi (wq_tp_takeLetter n hn σ) (fun q2 h3 => ?_)
  have f4 := h3
  have b5 := wt_bd q2.1
  have k6 : (-1 : Int32).toInt = -1 := by decide
  refine wt_T_if (fun h7 => ?_) (fun h7 => ?_)
  · skip
    have c8 := wt_ceq h7
    refine wt_T_some ?_
    exact (wt_fr.tr wt_fr.rf f4 (fun i k h => by (try dsimp only at h); rcases h with h | h | h | h; exact Or.inl (by omega); exact Or.inr (Or.inl (by omega)); exact Or.inr (Or.inr (Or.inl (by omega))); exact Or.inr (Or.inr (Or.inr ((by omega))))) (fun i h => by (try dsimp only at h); exact Or.inl (by omega)))
  · skip
    have c9 := wt_nceq h7
    refine wt_T_bi (wq_tp_takeLetter n hn q2.2) (fun q10 h11 => ?_)
    have f12 := h11
    have b13 := wt_bd q10.1
    refine wt_T_if (fun h14 => ?_) (fun h14 => ?_)
    · skip
      have c15 := wt_ceq h14
      refine wt_T_some ?_
      exact (wt_fr.tr (wt_fr.tr wt_fr.rf f4 (fun i k h => by (try dsimp only at h); rcases h with h | h | h | h; exact Or.inl (by omega); exact Or.inr (Or.inl (by omega)); exact Or.inr (Or.inr (Or.inl (by omega))); exact Or.inr (Or.inr (Or.inr ((by omega))))) (fun i h => by (try dsimp only at h); exact Or.inl (by omega))) f12 (fun i k h => by (try dsimp only at h); rcases h with h | h | h | h; exact Or.inl (by omega); exact Or.inr (Or.inl (by omega)); exact Or.inr (Or.inr (Or.inl (by omega))); exact Or.inr (Or.inr (Or.inr ((by omega))))) (fun i h => by (try dsimp only at h); exact Or.inl (by omega)))
    · skip
      have c16 := wt_nceq h14
      refine wt_T_bi (wq_ap_put n hn (t0 + 6) q2.1 q10.1 q10.2) (fun q17 h18 => ?_)
      have f19 := h18
      refine wt_T_some ?_
      exact (wt_fr.tr (wt_fr.tr (wt_fr.tr wt_fr.rf f4 (fun i k h => by (try dsimp only at h); rcases h with h | h | h | h; exact Or.inl (by omega); exact Or.inr (Or.inl (by omega)); exact Or.inr (Or.inr (Or.inl (by omega))); exact Or.inr (Or.inr (Or.inr ((by omega))))) (fun i h => by (try dsimp only at h); exact Or.inl (by omega))) f12 (fun i k h => by (try dsimp only at h); rcases h with h | h | h | h; exact Or.inl (by omega); exact Or.inr (Or.inl (by omega)); exact Or.inr (Or.inr (Or.inl (by omega))); exact Or.inr (Or.inr (Or.inr ((by omega))))) (fun i h => by (try dsimp only at h); exact Or.inl (by omega))) f19 (fun i k h => h.elim) (fun i h => by (try dsimp only at h); exact Or.inr ((by omega))))
set_option maxRecDepth 100000 in
set_option maxHeartbeats 4000000 in
theorem wq_ld_fillPieces (n : Nat) (hn : 4294967297 < n) (a1 : Nat) (a2 : Nat) (σ : wt_St) : wt_T (wp_ld_fillPieces n a1 a2 σ) (fun q => wt_fr (fun i k => (i = 1 ∧ k = 5) ∨ (i = 1 ∧ k = 4) ∨ (i = 1 ∧ k = 6) ∨ (i = 1 ∧ k = 7)) (fun i => i = 3 ∨ i = a1 ∨ i = a2) σ q.2) := by
  unfold wp_ld_fillPieces
  have b1 := wt_bd n
  refine wt_T_bi (wq_tp_takeLetter n hn σ) (fun q2 h3 => ?_)
  have f4 := h3
  have b5 := wt_bd q2.1
  have k6 : (-1 : Int32).toInt = -1 := by decide
  refine wt_T_if (fun h7 => ?_) (fun h7 => ?_)
  · skip
    have c8 := wt_ceq h7
    refine wt_T_some ?_
    exact (wt_fr.tr wt_fr.rf f4 (fun i k h => by (try dsimp only at h); rcases h with h | h | h | h; exact Or.inl (by omega); exact Or.inr (Or.inl (by omega)); exact Or.inr (Or.inr (Or.inl (by omega))); exact Or.inr (Or.inr (Or.inr ((by omega))))) (fun i h => by (try dsimp only at h); exact Or.inl (by omega)))
  · skip
    have c9 := wt_nceq h7
    refine wt_T_bi (wq_ap_look n hn a1 q2.1 q2.2) (fun q10 h11 => ?_)
    obtain ⟨e12, e12v⟩ := h11
    have e13 := wt_ceq e12v
    have b14 := wt_bd (wt_lk a1 q2.1 q2.2)
    have b15 := wt_bd q10.1
    rw [e12]
    have k16 : (1 : Int32).toInt = 1 := by decide
    have k17 : (12 : Int32).toInt = 12 := by decide
    obtain ⟨j18, j18a, j18b⟩ := wt_subI (12 : Int32) q10.1
    refine wt_T_bi (wq_tp_takeNumber n hn (1 : Int32) ((12 : Int32) - q10.1) q2.2) (fun q19 h20 => ?_)
    have f21 := h20
    have b22 := wt_bd q19.1
    refine wt_T_if (fun h23 => ?_) (fun h23 => ?_)
    · skip
      have c24 := wt_ceq h23
      refine wt_T_some ?_
      exact (wt_fr.tr (wt_fr.tr wt_fr.rf f4 (fun i k h => by (try dsimp only at h); rcases h with h | h | h | h; exact Or.inl (by omega); exact Or.inr (Or.inl (by omega)); exact Or.inr (Or.inr (Or.inl (by omega))); exact Or.inr (Or.inr (Or.inr ((by omega))))) (fun i h => by (try dsimp only at h); exact Or.inl (by omega))) f21 (fun i k h => by (try dsimp only at h); rcases h with h | h | h | h; exact Or.inl (by omega); exact Or.inr (Or.inl (by omega)); exact Or.inr (Or.inr (Or.inl (by omega))); exact Or.inr (Or.inr (Or.inr ((by omega))))) (fun i h => h.elim))
    · skip
      have c25 := wt_nceq h23
      have k26 : (400 : Int32).toInt = 400 := by decide
      refine wt_T_bi (wq_tp_takeNumber n hn (1 : Int32) (400 : Int32) q19.2) (fun q27 h28 => ?_)
      have f29 := h28
      have b30 := wt_bd q27.1
      refine wt_T_if (fun h31 => ?_) (fun h31 => ?_)
      · skip
        have c32 := wt_ceq h31
        refine wt_T_some ?_
        exact (wt_fr.tr (wt_fr.tr (wt_fr.tr wt_fr.rf f4 (fun i k h => by (try dsimp only at h); rcases h with h | h | h | h; exact Or.inl (by omega); exact Or.inr (Or.inl (by omega)); exact Or.inr (Or.inr (Or.inl (by omega))); exact Or.inr (Or.inr (Or.inr ((by omega))))) (fun i h => by (try dsimp only at h); exact Or.inl (by omega))) f21 (fun i k h => by (try dsimp only at h); rcases h with h | h | h | h; exact Or.inl (by omega); exact Or.inr (Or.inl (by omega)); exact Or.inr (Or.inr (Or.inl (by omega))); exact Or.inr (Or.inr (Or.inr ((by omega))))) (fun i h => h.elim)) f29 (fun i k h => by (try dsimp only at h); rcases h with h | h | h | h; exact Or.inl (by omega); exact Or.inr (Or.inl (by omega)); exact Or.inr (Or.inr (Or.inl (by omega))); exact Or.inr (Or.inr (Or.inr ((by omega))))) (fun i h => h.elim))
      · skip
        have c33 := wt_nceq h31
        refine wt_T_it (fun s : Int32 × wt_St => wt_fr (fun i k => False) (fun i => i = a2) q27.2 s.2) (fun s : Int32 × wt_St => ((q10.1 + q19.1).toInt - s.1.toInt + 0).toNat) (fun K34 s35 I36 hK34 => ?_) _ _ ?_ ?_
        · skip
          have l37 := I36
          unfold wp_ld_fillPieces_B61
          have b38 := wt_bd s35.1
          obtain ⟨j39, j39a, j39b⟩ := wt_addI q10.1 q19.1
          refine wt_T_if (fun h40 => ?_) (fun h40 => ?_)
          · skip
            have c41 := wt_cle h40
            refine wt_T_bi (wq_ap_put n hn a1 q2.1 (q10.1 + q19.1) s35.2) (fun q42 h43 => ?_)
            have f44 := h43
            refine wt_T_some ?_
            exact (wt_fr.tr (wt_fr.tr (wt_fr.tr (wt_fr.tr (wt_fr.tr wt_fr.rf f4 (fun i k h => by (try dsimp only at h); rcases h with h | h | h | h; exact Or.inl (by omega); exact Or.inr (Or.inl (by omega)); exact Or.inr (Or.inr (Or.inl (by omega))); exact Or.inr (Or.inr (Or.inr ((by omega))))) (fun i h => by (try dsimp only at h); exact Or.inl (by omega))) f21 (fun i k h => by (try dsimp only at h); rcases h with h | h | h | h; exact Or.inl (by omega); exact Or.inr (Or.inl (by omega)); exact Or.inr (Or.inr (Or.inl (by omega))); exact Or.inr (Or.inr (Or.inr ((by omega))))) (fun i h => h.elim)) f29 (fun i k h => by (try dsimp only at h); rcases h with h | h | h | h; exact Or.inl (by omega); exact Or.inr (Or.inl (by omega)); exact Or.inr (Or.inr (Or.inl (by omega))); exact Or.inr (Or.inr (Or.inr ((by omega))))) (fun i h => h.elim)) l37 (fun i k h => h.elim) (fun i h => by (try dsimp only at h); exact Or.inr (Or.inr ((by omega))))) f44 (fun i k h => h.elim) (fun i h => by (try dsimp only at h); exact Or.inr (Or.inl (by omega))))
          · skip
            have c45 := wt_ncle h40
            obtain ⟨j46, j46a, j46b⟩ := wt_mulI q2.1 (12 : Int32)
            obtain ⟨j47, j47a, j47b⟩ := wt_addI (q2.1 * (12 : Int32)) s35.1
            refine wt_T_bi (wq_ap_put n hn a2 ((q2.1 * (12 : Int32)) + s35.1) q27.1 s35.2) (fun q48 h49 => ?_)
            have f50 := h49
            obtain ⟨j51, j51a, j51b⟩ := wt_addI s35.1 (1 : Int32)
            refine hK34 _ (wt_fr.tr (wt_fr.tr wt_fr.rf l37 (fun i k h => h.elim) (fun i h => by (try dsimp only at h); exact (by omega))) f50 (fun i k h => h.elim) (fun i h => by (try dsimp only at h); exact (by omega))) ?_
            (try dsimp only); omega
        · skip
          exact wt_fr.rf
        · skip
          (try dsimp only); omega
set_option maxRecDepth 100000 in
set_option maxHeartbeats 4000000 in
theorem wq_ld_fillPrice (n : Nat) (hn : 4294967297 < n) (t0 : Nat) (σ : wt_St) : wt_T (wp_ld_fillPrice n t0 σ) (fun q => wt_fr (fun i k => (i = 1 ∧ k = 5) ∨ (i = 1 ∧ k = 4) ∨ (i = 1 ∧ k = 6) ∨ (i = 1 ∧ k = 7)) (fun i => i = 3 ∨ i = t0 + 5) σ q.2) := by
  unfold wp_ld_fillPrice
  have b1 := wt_bd n
  refine wt_T_bi (wq_tp_takeLetter n hn σ) (fun q2 h3 => ?_)
  have f4 := h3
  have b5 := wt_bd q2.1
  have k6 : (-1 : Int32).toInt = -1 := by decide
  refine wt_T_if (fun h7 => ?_) (fun h7 => ?_)
  · skip
    have c8 := wt_ceq h7
    refine wt_T_some ?_
    exact (wt_fr.tr wt_fr.rf f4 (fun i k h => by (try dsimp only at h); rcases h with h | h | h | h; exact Or.inl (by omega); exact Or.inr (Or.inl (by omega)); exact Or.inr (Or.inr (Or.inl (by omega))); exact Or.inr (Or.inr (Or.inr ((by omega))))) (fun i h => by (try dsimp only at h); exact Or.inl (by omega)))
  · skip
    have c9 := wt_nceq h7
    have k10 : (0 : Int32).toInt = 0 := by decide
    have k11 : (99 : Int32).toInt = 99 := by decide
    refine wt_T_bi (wq_tp_takeNumber n hn (0 : Int32) (99 : Int32) q2.2) (fun q12 h13 => ?_)
    have f14 := h13
    have b15 := wt_bd q12.1
    refine wt_T_if (fun h16 => ?_) (fun h16 => ?_)
    · skip
      have c17 := wt_ceq h16
      refine wt_T_some ?_
      exact (wt_fr.tr (wt_fr.tr wt_fr.rf f4 (fun i k h => by (try dsimp only at h); rcases h with h | h | h | h; exact Or.inl (by omega); exact Or.inr (Or.inl (by omega)); exact Or.inr (Or.inr (Or.inl (by omega))); exact Or.inr (Or.inr (Or.inr ((by omega))))) (fun i h => by (try dsimp only at h); exact Or.inl (by omega))) f14 (fun i k h => by (try dsimp only at h); rcases h with h | h | h | h; exact Or.inl (by omega); exact Or.inr (Or.inl (by omega)); exact Or.inr (Or.inr (Or.inl (by omega))); exact Or.inr (Or.inr (Or.inr ((by omega))))) (fun i h => h.elim))
    · skip
      have c18 := wt_nceq h16
      refine wt_T_bi (wq_ap_put n hn (t0 + 5) q2.1 q12.1 q12.2) (fun q19 h20 => ?_)
      have f21 := h20
      refine wt_T_some ?_
      exact (wt_fr.tr (wt_fr.tr (wt_fr.tr wt_fr.rf f4 (fun i k h => by (try dsimp only at h); rcases h with h | h | h | h; exact Or.inl (by omega); exact Or.inr (Or.inl (by omega)); exact Or.inr (Or.inr (Or.inl (by omega))); exact Or.inr (Or.inr (Or.inr ((by omega))))) (fun i h => by (try dsimp only at h); exact Or.inl (by omega))) f14 (fun i k h => by (try dsimp only at h); rcases h with h | h | h | h; exact Or.inl (by omega); exact Or.inr (Or.inl (by omega)); exact Or.inr (Or.inr (Or.inl (by omega))); exact Or.inr (Or.inr (Or.inr ((by omega))))) (fun i h => h.elim)) f21 (fun i k h => h.elim) (fun i h => by (try dsimp only at h); exact Or.inr ((by omega))))
set_option maxRecDepth 100000 in
set_option maxHeartbeats 4000000 in
theorem wq_tp_wordIs (n : Nat) (hn : 4294967297 < n) (bs1 : List Int32) (σ : wt_St) : wt_T (wp_tp_wordIs n bs1 σ) (fun q => q.2 = σ) := by
  unfold wp_tp_wordIs
  have b1 := wt_bd n
  refine wt_T_bi (wq_tp_wordLength n hn σ) (fun q2 h3 => ?_)
  have e4 := h3
  rw [e4]
  have b5 := wt_bd q2.1
  have b6 := nI_toInt (n := bs1.length) (by omega)
  refine wt_T_if (fun h7 => ?_) (fun h7 => ?_)
  · skip
    have c8 := wt_ceq h7
    have k14 : (0 : Int32).toInt = 0 := by decide
    refine wt_T_it (fun s : Int32 × wt_St => s.2 = σ ∧ 0 ≤ (s.1).toInt) (fun s : Int32 × wt_St => ((nI bs1.length).toInt - s.1.toInt + 0).toNat) (fun K9 s10 I11 hK9 => ?_) _ _ ?_ ?_
    · skip
      obtain ⟨l12, l13⟩ := I11
      unfold wp_tp_wordIs_B15
      rw [l12]
      have b15 := wt_bd s10.1
      refine wt_T_if (fun h16 => ?_) (fun h16 => ?_)
      · skip
        have c17 := wt_cle h16
        refine wt_T_some ?_
        exact rfl
      · skip
        have c18 := wt_ncle h16
        have b19 := wt_bd (wt_gf σ 1 5)
        obtain ⟨j20, j20a, j20b⟩ := wt_addI (wt_gf σ 1 5) s10.1
        refine wt_T_bi (wq_ap_look n hn 2 ((wt_gf σ 1 5) + s10.1) σ) (fun q21 h22 => ?_)
        obtain ⟨e23, e23v⟩ := h22
        have e24 := wt_ceq e23v
        have b25 := wt_bd (wt_lk 2 ((wt_gf σ 1 5) + s10.1) σ)
        have b26 := wt_bd q21.1
        rw [e23]
        refine wt_T_gd (wt_ix (by omega) (by omega)) ?_
        have b27 := wt_bd (wt_ch bs1 s10.1)
        refine wt_T_if (fun h28 => ?_) (fun h28 => ?_)
        · skip
          have c29 := wt_ceq h28
          have k30 : (1 : Int32).toInt = 1 := by decide
          obtain ⟨j31, j31a, j31b⟩ := wt_addI s10.1 (1 : Int32)
          refine hK9 _ ⟨rfl, (by (try dsimp only); omega)⟩ ?_
          (try dsimp only); omega
        · skip
          have c32 := wt_nceq h28
          refine wt_T_some ?_
          exact rfl
    · skip
      exact ⟨rfl, (by (try dsimp only); omega)⟩
    · skip
      (try dsimp only); omega
  · skip
    have c33 := wt_nceq h7
    refine wt_T_some ?_
    exact rfl
set_option maxRecDepth 100000 in
set_option maxHeartbeats 4000000 in
theorem wq_ld_namesClause (n : Nat) (hn : 4294967297 < n) (σ : wt_St) : wt_T (wp_ld_namesClause n σ) (fun q => q.2 = σ) := by
  unfold wp_ld_namesClause
  have b1 := wt_bd n
  refine wt_T_bi (wq_tp_wordIs n hn [108, 101, 116, 116, 101, 114] σ) (fun q2 h3 => ?_)
  have e4 := h3
  rw [e4]
  have b5 := wt_bd q2.1
  have k6 : (0 : Int32).toInt = 0 := by decide
  refine wt_T_if (fun h7 => ?_) (fun h7 => ?_)
  · skip
    have c8 := wt_ceq h7
    refine wt_T_bi (wq_tp_wordIs n hn [116, 104, 101, 114, 101] σ) (fun q9 h10 => ?_)
    have e11 := h10
    rw [e11]
    have b12 := wt_bd q9.1
    refine wt_T_if (fun h13 => ?_) (fun h13 => ?_)
    · skip
      have c14 := wt_ceq h13
      refine wt_T_bi (wq_tp_wordIs n hn [112, 114, 105, 99, 101] σ) (fun q15 h16 => ?_)
      have e17 := h16
      rw [e17]
      have b18 := wt_bd q15.1
      refine wt_T_if (fun h19 => ?_) (fun h19 => ?_)
      · skip
        have c20 := wt_ceq h19
        refine wt_T_bi (wq_tp_wordIs n hn [102, 97, 105, 110, 116] σ) (fun q21 h22 => ?_)
        have e23 := h22
        rw [e23]
        have b24 := wt_bd q21.1
        refine wt_T_if (fun h25 => ?_) (fun h25 => ?_)
        · skip
          have c26 := wt_ceq h25
          refine wt_T_bi (wq_tp_wordIs n hn [108, 105, 107, 101] σ) (fun q27 h28 => ?_)
          have e29 := h28
          rw [e29]
          have b30 := wt_bd q27.1
          refine wt_T_if (fun h31 => ?_) (fun h31 => ?_)
          · skip
            have c32 := wt_ceq h31
            refine wt_T_bi (wq_tp_wordIs n hn [102, 111, 108, 108, 111, 119] σ) (fun q33 h34 => ?_)
            have e35 := h34
            rw [e35]
            have b36 := wt_bd q33.1
            refine wt_T_if (fun h37 => ?_) (fun h37 => ?_)
            · skip
              have c38 := wt_ceq h37
              refine wt_T_some ?_
              exact rfl
            · skip
              have c39 := wt_nceq h37
              refine wt_T_some ?_
              exact rfl
          · skip
            have c40 := wt_nceq h31
            refine wt_T_some ?_
            exact rfl
        · skip
          have c41 := wt_nceq h25
          refine wt_T_some ?_
          exact rfl
      · skip
        have c42 := wt_nceq h19
        refine wt_T_some ?_
        exact rfl
    · skip
      have c43 := wt_nceq h13
      refine wt_T_some ?_
      exact rfl
  · skip
    have c44 := wt_nceq h7
    refine wt_T_some ?_
    exact rfl
set_option maxRecDepth 100000 in
set_option maxHeartbeats 4000000 in
theorem wq_ld_fillClause (n : Nat) (hn : 4294967297 < n) (t0 : Nat) (x2 : Int32) (σ : wt_St) : wt_T (wp_ld_fillClause n t0 x2 σ) (fun q => wt_fr (fun i k => (i = 1 ∧ k = 5) ∨ (i = 1 ∧ k = 4) ∨ (i = 1 ∧ k = 6) ∨ (i = 1 ∧ k = 7) ∨ (i = t0 ∧ k = 7)) (fun i => i = 3 ∨ i = t0 + 7 ∨ i = t0 + 6 ∨ i = t0 + 5 ∨ i = t0 + 3 ∨ i = t0 + 4 ∨ i = t0 + 1 ∨ i = t0 + 2) σ q.2) := by
  unfold wp_ld_fillClause
  have b1 := wt_bd n
  refine wt_T_bi (wq_tp_takeWord n hn σ) (fun q2 h3 => ?_)
  have f4 := h3
  have b5 := wt_bd q2.1
  have k6 : (0 : Int32).toInt = 0 := by decide
  refine wt_T_if (fun h7 => ?_) (fun h7 => ?_)
  · skip
    have c8 := wt_ceq h7
    refine wt_T_some ?_
    exact (wt_fr.tr wt_fr.rf f4 (fun i k h => by (try dsimp only at h); rcases h with h | h | h | h; exact Or.inl (by omega); exact Or.inr (Or.inl (by omega)); exact Or.inr (Or.inr (Or.inl (by omega))); exact Or.inr (Or.inr (Or.inr (Or.inl (by omega))))) (fun i h => by (try dsimp only at h); exact Or.inl (by omega)))
  · skip
    have c9 := wt_nceq h7
    refine wt_T_bi (wq_ld_namesClause n hn q2.2) (fun q10 h11 => ?_)
    have e12 := h11
    rw [e12]
    have b13 := wt_bd q10.1
    refine wt_T_if (fun h14 => ?_) (fun h14 => ?_)
    · skip
      have c15 := wt_ceq h14
      have k16 : (1 : Int32).toInt = 1 := by decide
      refine wt_T_bi (wq_tp_fail n hn (1 : Int32) q2.2) (fun q17 h18 => ?_)
      have f19 := h18
      refine wt_T_some ?_
      exact (wt_fr.tr (wt_fr.tr wt_fr.rf f4 (fun i k h => by (try dsimp only at h); rcases h with h | h | h | h; exact Or.inl (by omega); exact Or.inr (Or.inl (by omega)); exact Or.inr (Or.inr (Or.inl (by omega))); exact Or.inr (Or.inr (Or.inr (Or.inl (by omega))))) (fun i h => by (try dsimp only at h); exact Or.inl (by omega))) f19 (fun i k h => by (try dsimp only at h); rcases h with h | h; exact Or.inr (Or.inr (Or.inl (by omega))); exact Or.inr (Or.inr (Or.inr (Or.inl (by omega))))) (fun i h => h.elim))
    · skip
      have c20 := wt_nceq h14
      have b21 := wt_bd x2
      have k22 : (60 : Int32).toInt = 60 := by decide
      refine wt_T_if (fun h23 => ?_) (fun h23 => ?_)
      · skip
        have c24 := wt_clt h23
        refine wt_T_bi (wq_tp_wordIs n hn [108, 101, 116, 116, 101, 114] q2.2) (fun q25 h26 => ?_)
        have e27 := h26
        rw [e27]
        have b28 := wt_bd q25.1
        refine wt_T_if (fun h29 => ?_) (fun h29 => ?_)
        · skip
          have c30 := wt_ceq h29
          refine wt_T_bi (wq_tp_wordIs n hn [116, 104, 101, 114, 101] q2.2) (fun q31 h32 => ?_)
          have e33 := h32
          have b34 := wt_bd q31.1
          refine wt_T_if (fun h35 => ?_) (fun h35 => ?_)
          · skip
            have c36 := wt_ceq h35
            refine wt_T_bi (wq_tp_wordIs n hn [112, 114, 105, 99, 101] q2.2) (fun q37 h38 => ?_)
            have e39 := h38
            rw [e39]
            have b40 := wt_bd q37.1
            refine wt_T_if (fun h41 => ?_) (fun h41 => ?_)
            · skip
              have c42 := wt_ceq h41
              refine wt_T_bi (wq_tp_wordIs n hn [102, 97, 105, 110, 116] q2.2) (fun q43 h44 => ?_)
              have e45 := h44
              rw [e45]
              have b46 := wt_bd q43.1
              refine wt_T_if (fun h47 => ?_) (fun h47 => ?_)
              · skip
                have c48 := wt_ceq h47
                refine wt_T_bi (wq_tp_wordIs n hn [108, 105, 107, 101] q2.2) (fun q49 h50 => ?_)
                have e51 := h50
                rw [e51]
                have b52 := wt_bd q49.1
                refine wt_T_if (fun h53 => ?_) (fun h53 => ?_)
                · skip
                  have c54 := wt_ceq h53
                  refine wt_T_bi (wq_ld_fillFollow n hn t0 q2.2) (fun q55 h56 => ?_)
                  have f57 := h56
                  refine wt_T_some ?_
                  exact (wt_fr.tr (wt_fr.tr wt_fr.rf f4 (fun i k h => by (try dsimp only at h); rcases h with h | h | h | h; exact Or.inl (by omega); exact Or.inr (Or.inl (by omega)); exact Or.inr (Or.inr (Or.inl (by omega))); exact Or.inr (Or.inr (Or.inr (Or.inl (by omega))))) (fun i h => by (try dsimp only at h); exact Or.inl (by omega))) f57 (fun i k h => by (try dsimp only at h); rcases h with h | h | h | h; exact Or.inl (by omega); exact Or.inr (Or.inl (by omega)); exact Or.inr (Or.inr (Or.inl (by omega))); exact Or.inr (Or.inr (Or.inr (Or.inl (by omega))))) (fun i h => by (try dsimp only at h); exact Or.inr (Or.inl (by omega))))
                · skip
                  have c58 := wt_nceq h53
                  refine wt_T_bi (wq_ld_fillLike n hn t0 q2.2) (fun q59 h60 => ?_)
                  have f61 := h60
                  refine wt_T_some ?_
                  exact (wt_fr.tr (wt_fr.tr wt_fr.rf f4 (fun i k h => by (try dsimp only at h); rcases h with h | h | h | h; exact Or.inl (by omega); exact Or.inr (Or.inl (by omega)); exact Or.inr (Or.inr (Or.inl (by omega))); exact Or.inr (Or.inr (Or.inr (Or.inl (by omega))))) (fun i h => by (try dsimp only at h); exact Or.inl (by omega))) f61 (fun i k h => by (try dsimp only at h); rcases h with h | h | h | h; exact Or.inl (by omega); exact Or.inr (Or.inl (by omega)); exact Or.inr (Or.inr (Or.inl (by omega))); exact Or.inr (Or.inr (Or.inr (Or.inl (by omega))))) (fun i h => by (try dsimp only at h); rcases h with h | h; exact Or.inl (by omega); exact Or.inr (Or.inr (Or.inl (by omega)))))
              · skip
                have c62 := wt_nceq h47
                refine wt_T_bi (wq_ld_fillFaint n hn t0 q2.2) (fun q63 h64 => ?_)
                have f65 := h64
                refine wt_T_some ?_
                exact (wt_fr.tr (wt_fr.tr wt_fr.rf f4 (fun i k h => by (try dsimp only at h); rcases h with h | h | h | h; exact Or.inl (by omega); exact Or.inr (Or.inl (by omega)); exact Or.inr (Or.inr (Or.inl (by omega))); exact Or.inr (Or.inr (Or.inr (Or.inl (by omega))))) (fun i h => by (try dsimp only at h); exact Or.inl (by omega))) f65 (fun i k h => by (try dsimp only at h); rcases h with h | h | h | h | h; exact Or.inl (by omega); exact Or.inr (Or.inl (by omega)); exact Or.inr (Or.inr (Or.inl (by omega))); exact Or.inr (Or.inr (Or.inr (Or.inl (by omega)))); exact Or.inr (Or.inr (Or.inr (Or.inr ((by omega)))))) (fun i h => h.elim))
            · skip
              have c66 := wt_nceq h41
              refine wt_T_bi (wq_ld_fillPrice n hn t0 q2.2) (fun q67 h68 => ?_)
              have f69 := h68
              refine wt_T_some ?_
              exact (wt_fr.tr (wt_fr.tr wt_fr.rf f4 (fun i k h => by (try dsimp only at h); rcases h with h | h | h | h; exact Or.inl (by omega); exact Or.inr (Or.inl (by omega)); exact Or.inr (Or.inr (Or.inl (by omega))); exact Or.inr (Or.inr (Or.inr (Or.inl (by omega))))) (fun i h => by (try dsimp only at h); exact Or.inl (by omega))) f69 (fun i k h => by (try dsimp only at h); rcases h with h | h | h | h; exact Or.inl (by omega); exact Or.inr (Or.inl (by omega)); exact Or.inr (Or.inr (Or.inl (by omega))); exact Or.inr (Or.inr (Or.inr (Or.inl (by omega))))) (fun i h => by (try dsimp only at h); rcases h with h | h; exact Or.inl (by omega); exact Or.inr (Or.inr (Or.inr (Or.inl (by omega))))))
          · skip
            have c70 := wt_nceq h35
            refine wt_T_bi (wq_ld_fillPieces n hn (t0 + 3) (t0 + 4) q2.2) (fun q71 h72 => ?_)
            have f73 := h72
            refine wt_T_some ?_
            exact (wt_fr.tr wt_fr.rf f4 (fun i k h => by (try dsimp only at h); rcases h with h | h | h | h; exact Or.inl (by omega); exact Or.inr (Or.inl (by omega)); exact Or.inr (Or.inr (Or.inl (by omega))); exact Or.inr (Or.inr (Or.inr (Or.inl (by omega))))) (fun i h => by (try dsimp only at h); exact Or.inl (by omega)))
        · skip
          have c74 := wt_nceq h29
          refine wt_T_bi (wq_ld_fillPieces n hn (t0 + 1) (t0 + 2) q2.2) (fun q75 h76 => ?_)
          have f77 := h76
          refine wt_T_some ?_
          exact (wt_fr.tr (wt_fr.tr wt_fr.rf f4 (fun i k h => by (try dsimp only at h); rcases h with h | h | h | h; exact Or.inl (by omega); exact Or.inr (Or.inl (by omega)); exact Or.inr (Or.inr (Or.inl (by omega))); exact Or.inr (Or.inr (Or.inr (Or.inl (by omega))))) (fun i h => by (try dsimp only at h); exact Or.inl (by omega))) f77 (fun i k h => by (try dsimp only at h); rcases h with h | h | h | h; exact Or.inl (by omega); exact Or.inr (Or.inl (by omega)); exact Or.inr (Or.inr (Or.inl (by omega))); exact Or.inr (Or.inr (Or.inr (Or.inl (by omega))))) (fun i h => by (try dsimp only at h); rcases h with h | h | h; exact Or.inl (by omega); exact Or.inr (Or.inr (Or.inr (Or.inr (Or.inr (Or.inr (Or.inl (by omega))))))); exact Or.inr (Or.inr (Or.inr (Or.inr (Or.inr (Or.inr (Or.inr ((by omega))))))))))
      · skip
        have c78 := wt_ncl h23
        have k79 : (3 : Int32).toInt = 3 := by decide
        refine wt_T_bi (wq_tp_fail n hn (3 : Int32) q2.2) (fun q80 h81 => ?_)
        have f82 := h81
        refine wt_T_some ?_
        exact (wt_fr.tr (wt_fr.tr wt_fr.rf f4 (fun i k h => by (try dsimp only at h); rcases h with h | h | h | h; exact Or.inl (by omega); exact Or.inr (Or.inl (by omega)); exact Or.inr (Or.inr (Or.inl (by omega))); exact Or.inr (Or.inr (Or.inr (Or.inl (by omega))))) (fun i h => by (try dsimp only at h); exact Or.inl (by omega))) f82 (fun i k h => by (try dsimp only at h); rcases h with h | h; exact Or.inr (Or.inr (Or.inl (by omega))); exact Or.inr (Or.inr (Or.inr (Or.inl (by omega))))) (fun i h => h.elim))
set_option maxRecDepth 100000 in
set_option maxHeartbeats 4000000 in
theorem wq_tp_takeSign (n : Nat) (hn : 4294967297 < n) (x1 : Int32) (σ : wt_St) : wt_T (wp_tp_takeSign n x1 σ) (fun q => wt_fr (fun i k => (i = 1 ∧ k = 5) ∨ (i = 1 ∧ k = 4)) (fun i => False) σ q.2) := by
  unfold wp_tp_takeSign
  have b1 := wt_bd n
  refine wt_T_bi (wq_tp_skipBlanks n hn σ) (fun q2 h3 => ?_)
  have f4 := h3
  have b5 := wt_bd (wt_gf q2 1 3)
  have t6 : (wt_gf q2 1 3).toInt = (wt_gf σ 1 3).toInt := congrArg Int32.toInt (f4.1 1 3 (by (try dsimp only); omega))
  have b7 := wt_bd (wt_gf σ 1 3)
  have b8 := wt_bd (wt_gf q2 1 4)
  refine wt_T_if (fun h9 => ?_) (fun h9 => ?_)
  · skip
    have c10 := wt_cle h9
    refine wt_T_some ?_
    exact (wt_fr.tr wt_fr.rf f4 (fun i k h => by (try dsimp only at h); rcases h with h | h; exact Or.inl (by omega); exact Or.inr ((by omega))) (fun i h => h.elim))
  · skip
    have c11 := wt_ncle h9
    refine wt_T_bi (wq_ap_look n hn 2 (wt_gf q2 1 4) q2) (fun q12 h13 => ?_)
    obtain ⟨e14, e14v⟩ := h13
    have e15 := wt_ceq e14v
    have b16 := wt_bd (wt_lk 2 (wt_gf q2 1 4) q2)
    have t17 : (wt_lk 2 (wt_gf q2 1 4) q2).toInt = (wt_lk 2 (wt_gf q2 1 4) σ).toInt := congrArg Int32.toInt (wt_lk_fr (f4.2 2 (fun z => z)))
    have b18 := wt_bd (wt_lk 2 (wt_gf q2 1 4) σ)
    have b19 := wt_bd q12.1
    rw [e14]
    have b20 := wt_bd x1
    refine wt_T_if (fun h21 => ?_) (fun h21 => ?_)
    · skip
      have c22 := wt_ceq h21
      obtain ⟨σ23, eσ23⟩ : ∃ z : wt_St, z = wt_sf q2 1 4 ((wt_gf q2 1 4) + (1 : Int32)) := ⟨_, rfl⟩
      rw [← eσ23]
      have fσ23 := wt_fr_sf eσ23
      have vσ23 := wt_ceq (wt_v_sf eσ23)
      have k24 : (1 : Int32).toInt = 1 := by decide
      obtain ⟨j25, j25a, j25b⟩ := wt_addI (wt_gf q2 1 4) (1 : Int32)
      refine wt_T_some ?_
      exact (wt_fr.tr (wt_fr.tr wt_fr.rf f4 (fun i k h => by (try dsimp only at h); rcases h with h | h; exact Or.inl (by omega); exact Or.inr ((by omega))) (fun i h => h.elim)) fσ23 (fun i k h => by (try dsimp only at h); exact Or.inr ((by omega))) (fun i h => h.elim))
    · skip
      have c26 := wt_nceq h21
      refine wt_T_some ?_
      exact (wt_fr.tr wt_fr.rf f4 (fun i k h => by (try dsimp only at h); rcases h with h | h; exact Or.inl (by omega); exact Or.inr ((by omega))) (fun i h => h.elim))
set_option maxRecDepth 100000 in
set_option maxHeartbeats 4000000 in
theorem wq_tp_needSign (n : Nat) (hn : 4294967297 < n) (x1 : Int32) (σ : wt_St) : wt_T (wp_tp_needSign n x1 σ) (fun q => wt_fr (fun i k => (i = 1 ∧ k = 5) ∨ (i = 1 ∧ k = 4) ∨ (i = 1 ∧ k = 6) ∨ (i = 1 ∧ k = 7)) (fun i => False) σ q.2) := by
  unfold wp_tp_needSign
  have b1 := wt_bd n
  have b2 := wt_bd x1
  refine wt_T_bi (wq_tp_takeSign n hn x1 σ) (fun q3 h4 => ?_)
  have f5 := h4
  have b6 := wt_bd q3.1
  have k7 : (0 : Int32).toInt = 0 := by decide
  refine wt_T_if (fun h8 => ?_) (fun h8 => ?_)
  · skip
    have c9 := wt_ceq h8
    have k10 : (1 : Int32).toInt = 1 := by decide
    refine wt_T_bi (wq_tp_fail n hn (1 : Int32) q3.2) (fun q11 h12 => ?_)
    have f13 := h12
    have b14 := wt_bd q11.1
    refine wt_T_if (fun h15 => ?_) (fun h15 => ?_)
    · skip
      have c16 := wt_ceq h15
      refine wt_T_some ?_
      exact (wt_fr.tr (wt_fr.tr wt_fr.rf f5 (fun i k h => by (try dsimp only at h); rcases h with h | h; exact Or.inl (by omega); exact Or.inr (Or.inl (by omega))) (fun i h => h.elim)) f13 (fun i k h => by (try dsimp only at h); rcases h with h | h; exact Or.inr (Or.inr (Or.inl (by omega))); exact Or.inr (Or.inr (Or.inr ((by omega))))) (fun i h => h.elim))
    · skip
      have c17 := wt_nceq h15
      refine wt_T_some ?_
      exact (wt_fr.tr (wt_fr.tr wt_fr.rf f5 (fun i k h => by (try dsimp only at h); rcases h with h | h; exact Or.inl (by omega); exact Or.inr (Or.inl (by omega))) (fun i h => h.elim)) f13 (fun i k h => by (try dsimp only at h); rcases h with h | h; exact Or.inr (Or.inr (Or.inl (by omega))); exact Or.inr (Or.inr (Or.inr ((by omega))))) (fun i h => h.elim))
  · skip
    have c18 := wt_nceq h8
    refine wt_T_some ?_
    exact (wt_fr.tr wt_fr.rf f5 (fun i k h => by (try dsimp only at h); rcases h with h | h; exact Or.inl (by omega); exact Or.inr (Or.inl (by omega))) (fun i h => h.elim))
set_option maxRecDepth 100000 in
set_option maxHeartbeats 4000000 in
theorem wq_tp_over (n : Nat) (hn : 4294967297 < n) (σ : wt_St) : wt_T (wp_tp_over n σ) (fun q => wt_fr (fun i k => (i = 1 ∧ k = 5) ∨ (i = 1 ∧ k = 4)) (fun i => False) σ q.2) := by
  unfold wp_tp_over
  have b1 := wt_bd n
  refine wt_T_bi (wq_tp_skipBlanks n hn σ) (fun q2 h3 => ?_)
  have f4 := h3
  have b5 := wt_bd (wt_gf q2 1 4)
  have b6 := wt_bd (wt_gf q2 1 3)
  have t7 : (wt_gf q2 1 3).toInt = (wt_gf σ 1 3).toInt := congrArg Int32.toInt (f4.1 1 3 (by (try dsimp only); omega))
  have b8 := wt_bd (wt_gf σ 1 3)
  refine wt_T_if (fun h9 => ?_) (fun h9 => ?_)
  · skip
    have c10 := wt_clt h9
    refine wt_T_some ?_
    exact (wt_fr.tr wt_fr.rf f4 (fun i k h => by (try dsimp only at h); rcases h with h | h; exact Or.inl (by omega); exact Or.inr ((by omega))) (fun i h => h.elim))
  · skip
    have c11 := wt_ncl h9
    refine wt_T_some ?_
    exact (wt_fr.tr wt_fr.rf f4 (fun i k h => by (try dsimp only at h); rcases h with h | h; exact Or.inl (by omega); exact Or.inr ((by omega))) (fun i h => h.elim))
set_option maxRecDepth 100000 in
set_option maxHeartbeats 4000000 in
theorem wq_ld_fill (n : Nat) (hn : 4294967297 < n) (t0 : Nat) (σ : wt_St) : wt_T (wp_ld_fill n t0 σ) (fun q => wt_fr (fun i k => (i = t0 ∧ k = 7) ∨ (i = 1 ∧ k = 5) ∨ (i = 1 ∧ k = 4) ∨ (i = 1 ∧ k = 6) ∨ (i = 1 ∧ k = 7)) (fun i => i = t0 + 1 ∨ i = t0 + 2 ∨ i = t0 + 3 ∨ i = t0 + 4 ∨ i = t0 + 5 ∨ i = t0 + 6 ∨ i = t0 + 7 ∨ i = 3) σ q.2) := by
  unfold wp_ld_fill
  have b1 := wt_bd n
  refine wt_T_bi (wq_ld_clear n hn t0 σ) (fun q2 h3 => ?_)
  have f4 := h3
  have k10 : (0 : Int32).toInt = 0 := by decide
  refine wt_T_it (fun s : Int32 × wt_St => wt_fr (fun i k => (i = 1 ∧ k = 5) ∨ (i = 1 ∧ k = 4) ∨ (i = 1 ∧ k = 6) ∨ (i = 1 ∧ k = 7) ∨ (i = t0 ∧ k = 7)) (fun i => i = 3 ∨ i = t0 + 7 ∨ i = t0 + 6 ∨ i = t0 + 5 ∨ i = t0 + 3 ∨ i = t0 + 4 ∨ i = t0 + 1 ∨ i = t0 + 2) q2 s.2 ∧ 0 ≤ (s.1).toInt) (fun s : Int32 × wt_St => ((60 : Int32).toInt - s.1.toInt + 1).toNat) (fun K5 s6 I7 hK5 => ?_) _ _ ?_ ?_
  · skip
    obtain ⟨l8, l9⟩ := I7
    unfold wp_ld_fill_B6
    have k11 : (60 : Int32).toInt = 60 := by decide
    have b12 := wt_bd s6.1
    refine wt_T_if (fun h13 => ?_) (fun h13 => ?_)
    · skip
      have c14 := wt_clt h13
      refine wt_T_some ?_
      exact (wt_fr.tr (wt_fr.tr wt_fr.rf f4 (fun i k h => by (try dsimp only at h); exact Or.inl (by omega)) (fun i h => by (try dsimp only at h); rcases h with h | h | h | h | h | h | h; exact Or.inl (by omega); exact Or.inr (Or.inl (by omega)); exact Or.inr (Or.inr (Or.inl (by omega))); exact Or.inr (Or.inr (Or.inr (Or.inl (by omega)))); exact Or.inr (Or.inr (Or.inr (Or.inr (Or.inl (by omega))))); exact Or.inr (Or.inr (Or.inr (Or.inr (Or.inr (Or.inl (by omega)))))); exact Or.inr (Or.inr (Or.inr (Or.inr (Or.inr (Or.inr (Or.inl (by omega))))))))) l8 (fun i k h => by (try dsimp only at h); rcases h with h | h | h | h | h; exact Or.inr (Or.inl (by omega)); exact Or.inr (Or.inr (Or.inl (by omega))); exact Or.inr (Or.inr (Or.inr (Or.inl (by omega)))); exact Or.inr (Or.inr (Or.inr (Or.inr ((by omega))))); exact Or.inl (by omega)) (fun i h => by (try dsimp only at h); rcases h with h | h | h | h | h | h | h | h; exact Or.inr (Or.inr (Or.inr (Or.inr (Or.inr (Or.inr (Or.inr ((by omega)))))))); exact Or.inr (Or.inr (Or.inr (Or.inr (Or.inr (Or.inr (Or.inl (by omega))))))); exact Or.inr (Or.inr (Or.inr (Or.inr (Or.inr (Or.inl (by omega)))))); exact Or.inr (Or.inr (Or.inr (Or.inr (Or.inl (by omega))))); exact Or.inr (Or.inr (Or.inl (by omega))); exact Or.inr (Or.inr (Or.inr (Or.inl (by omega)))); exact Or.inl (by omega); exact Or.inr (Or.inl (by omega))))
    · skip
      have c15 := wt_ncl h13
      refine wt_T_bi (wq_tp_over n hn s6.2) (fun q16 h17 => ?_)
      have f18 := h17
      have b19 := wt_bd q16.1
      refine wt_T_if (fun h20 => ?_) (fun h20 => ?_)
      · skip
        have c21 := wt_ceq h20
        refine wt_T_bi (wq_ld_fillClause n hn t0 s6.1 q16.2) (fun q22 h23 => ?_)
        have f24 := h23
        have b25 := wt_bd q22.1
        refine wt_T_if (fun h26 => ?_) (fun h26 => ?_)
        · skip
          have c27 := wt_ceq h26
          refine wt_T_some ?_
          exact (wt_fr.tr (wt_fr.tr (wt_fr.tr (wt_fr.tr wt_fr.rf f4 (fun i k h => by (try dsimp only at h); exact Or.inl (by omega)) (fun i h => by (try dsimp only at h); rcases h with h | h | h | h | h | h | h; exact Or.inl (by omega); exact Or.inr (Or.inl (by omega)); exact Or.inr (Or.inr (Or.inl (by omega))); exact Or.inr (Or.inr (Or.inr (Or.inl (by omega)))); exact Or.inr (Or.inr (Or.inr (Or.inr (Or.inl (by omega))))); exact Or.inr (Or.inr (Or.inr (Or.inr (Or.inr (Or.inl (by omega)))))); exact Or.inr (Or.inr (Or.inr (Or.inr (Or.inr (Or.inr (Or.inl (by omega))))))))) l8 (fun i k h => by (try dsimp only at h); rcases h with h | h | h | h | h; exact Or.inr (Or.inl (by omega)); exact Or.inr (Or.inr (Or.inl (by omega))); exact Or.inr (Or.inr (Or.inr (Or.inl (by omega)))); exact Or.inr (Or.inr (Or.inr (Or.inr ((by omega))))); exact Or.inl (by omega)) (fun i h => by (try dsimp only at h); rcases h with h | h | h | h | h | h | h | h; exact Or.inr (Or.inr (Or.inr (Or.inr (Or.inr (Or.inr (Or.inr ((by omega)))))))); exact Or.inr (Or.inr (Or.inr (Or.inr (Or.inr (Or.inr (Or.inl (by omega))))))); exact Or.inr (Or.inr (Or.inr (Or.inr (Or.inr (Or.inl (by omega)))))); exact Or.inr (Or.inr (Or.inr (Or.inr (Or.inl (by omega))))); exact Or.inr (Or.inr (Or.inl (by omega))); exact Or.inr (Or.inr (Or.inr (Or.inl (by omega)))); exact Or.inl (by omega); exact Or.inr (Or.inl (by omega)))) f18 (fun i k h => by (try dsimp only at h); rcases h with h | h; exact Or.inr (Or.inl (by omega)); exact Or.inr (Or.inr (Or.inl (by omega)))) (fun i h => h.elim)) f24 (fun i k h => by (try dsimp only at h); rcases h with h | h | h | h | h; exact Or.inr (Or.inl (by omega)); exact Or.inr (Or.inr (Or.inl (by omega))); exact Or.inr (Or.inr (Or.inr (Or.inl (by omega)))); exact Or.inr (Or.inr (Or.inr (Or.inr ((by omega))))); exact Or.inl (by omega)) (fun i h => by (try dsimp only at h); rcases h with h | h | h | h | h | h | h | h; exact Or.inr (Or.inr (Or.inr (Or.inr (Or.inr (Or.inr (Or.inr ((by omega)))))))); exact Or.inr (Or.inr (Or.inr (Or.inr (Or.inr (Or.inr (Or.inl (by omega))))))); exact Or.inr (Or.inr (Or.inr (Or.inr (Or.inr (Or.inl (by omega)))))); exact Or.inr (Or.inr (Or.inr (Or.inr (Or.inl (by omega))))); exact Or.inr (Or.inr (Or.inl (by omega))); exact Or.inr (Or.inr (Or.inr (Or.inl (by omega)))); exact Or.inl (by omega); exact Or.inr (Or.inl (by omega))))
        · skip
          have c28 := wt_nceq h26
          have k29 : (59 : Int32).toInt = 59 := by decide
          refine wt_T_bi (wq_tp_needSign n hn (59 : Int32) q22.2) (fun q30 h31 => ?_)
          have f32 := h31
          have b33 := wt_bd q30.1
          refine wt_T_if (fun h34 => ?_) (fun h34 => ?_)
          · skip
            have c35 := wt_ceq h34
            refine wt_T_some ?_
            exact (wt_fr.tr (wt_fr.tr (wt_fr.tr (wt_fr.tr (wt_fr.tr wt_fr.rf f4 (fun i k h => by (try dsimp only at h); exact Or.inl (by omega)) (fun i h => by (try dsimp only at h); rcases h with h | h | h | h | h | h | h; exact Or.inl (by omega); exact Or.inr (Or.inl (by omega)); exact Or.inr (Or.inr (Or.inl (by omega))); exact Or.inr (Or.inr (Or.inr (Or.inl (by omega)))); exact Or.inr (Or.inr (Or.inr (Or.inr (Or.inl (by omega))))); exact Or.inr (Or.inr (Or.inr (Or.inr (Or.inr (Or.inl (by omega)))))); exact Or.inr (Or.inr (Or.inr (Or.inr (Or.inr (Or.inr (Or.inl (by omega))))))))) l8 (fun i k h => by (try dsimp only at h); rcases h with h | h | h | h | h; exact Or.inr (Or.inl (by omega)); exact Or.inr (Or.inr (Or.inl (by omega))); exact Or.inr (Or.inr (Or.inr (Or.inl (by omega)))); exact Or.inr (Or.inr (Or.inr (Or.inr ((by omega))))); exact Or.inl (by omega)) (fun i h => by (try dsimp only at h); rcases h with h | h | h | h | h | h | h | h; exact Or.inr (Or.inr (Or.inr (Or.inr (Or.inr (Or.inr (Or.inr ((by omega)))))))); exact Or.inr (Or.inr (Or.inr (Or.inr (Or.inr (Or.inr (Or.inl (by omega))))))); exact Or.inr (Or.inr (Or.inr (Or.inr (Or.inr (Or.inl (by omega)))))); exact Or.inr (Or.inr (Or.inr (Or.inr (Or.inl (by omega))))); exact Or.inr (Or.inr (Or.inl (by omega))); exact Or.inr (Or.inr (Or.inr (Or.inl (by omega)))); exact Or.inl (by omega); exact Or.inr (Or.inl (by omega)))) f18 (fun i k h => by (try dsimp only at h); rcases h with h | h; exact Or.inr (Or.inl (by omega)); exact Or.inr (Or.inr (Or.inl (by omega)))) (fun i h => h.elim)) f24 (fun i k h => by (try dsimp only at h); rcases h with h | h | h | h | h; exact Or.inr (Or.inl (by omega)); exact Or.inr (Or.inr (Or.inl (by omega))); exact Or.inr (Or.inr (Or.inr (Or.inl (by omega)))); exact Or.inr (Or.inr (Or.inr (Or.inr ((by omega))))); exact Or.inl (by omega)) (fun i h => by (try dsimp only at h); rcases h with h | h | h | h | h | h | h | h; exact Or.inr (Or.inr (Or.inr (Or.inr (Or.inr (Or.inr (Or.inr ((by omega)))))))); exact Or.inr (Or.inr (Or.inr (Or.inr (Or.inr (Or.inr (Or.inl (by omega))))))); exact Or.inr (Or.inr (Or.inr (Or.inr (Or.inr (Or.inl (by omega)))))); exact Or.inr (Or.inr (Or.inr (Or.inr (Or.inl (by omega))))); exact Or.inr (Or.inr (Or.inl (by omega))); exact Or.inr (Or.inr (Or.inr (Or.inl (by omega)))); exact Or.inl (by omega); exact Or.inr (Or.inl (by omega)))) f32 (fun i k h => by (try dsimp only at h); rcases h with h | h | h | h; exact Or.inr (Or.inl (by omega)); exact Or.inr (Or.inr (Or.inl (by omega))); exact Or.inr (Or.inr (Or.inr (Or.inl (by omega)))); exact Or.inr (Or.inr (Or.inr (Or.inr ((by omega)))))) (fun i h => h.elim))
          · skip
            have c36 := wt_nceq h34
            have k37 : (1 : Int32).toInt = 1 := by decide
            obtain ⟨j38, j38a, j38b⟩ := wt_addI s6.1 (1 : Int32)
            refine hK5 _ ⟨(wt_fr.tr (wt_fr.tr (wt_fr.tr (wt_fr.tr wt_fr.rf l8 (fun i k h => by (try dsimp only at h); rcases h with h | h | h | h | h; exact Or.inl (by omega); exact Or.inr (Or.inl (by omega)); exact Or.inr (Or.inr (Or.inl (by omega))); exact Or.inr (Or.inr (Or.inr (Or.inl (by omega)))); exact Or.inr (Or.inr (Or.inr (Or.inr ((by omega)))))) (fun i h => by (try dsimp only at h); rcases h with h | h | h | h | h | h | h | h; exact Or.inl (by omega); exact Or.inr (Or.inl (by omega)); exact Or.inr (Or.inr (Or.inl (by omega))); exact Or.inr (Or.inr (Or.inr (Or.inl (by omega)))); exact Or.inr (Or.inr (Or.inr (Or.inr (Or.inl (by omega))))); exact Or.inr (Or.inr (Or.inr (Or.inr (Or.inr (Or.inl (by omega)))))); exact Or.inr (Or.inr (Or.inr (Or.inr (Or.inr (Or.inr (Or.inl (by omega))))))); exact Or.inr (Or.inr (Or.inr (Or.inr (Or.inr (Or.inr (Or.inr ((by omega)))))))))) f18 (fun i k h => by (try dsimp only at h); rcases h with h | h; exact Or.inl (by omega); exact Or.inr (Or.inl (by omega))) (fun i h => h.elim)) f24 (fun i k h => by (try dsimp only at h); rcases h with h | h | h | h | h; exact Or.inl (by omega); exact Or.inr (Or.inl (by omega)); exact Or.inr (Or.inr (Or.inl (by omega))); exact Or.inr (Or.inr (Or.inr (Or.inl (by omega)))); exact Or.inr (Or.inr (Or.inr (Or.inr ((by omega)))))) (fun i h => by (try dsimp only at h); rcases h with h | h | h | h | h | h | h | h; exact Or.inl (by omega); exact Or.inr (Or.inl (by omega)); exact Or.inr (Or.inr (Or.inl (by omega))); exact Or.inr (Or.inr (Or.inr (Or.inl (by omega)))); exact Or.inr (Or.inr (Or.inr (Or.inr (Or.inl (by omega))))); exact Or.inr (Or.inr (Or.inr (Or.inr (Or.inr (Or.inl (by omega)))))); exact Or.inr (Or.inr (Or.inr (Or.inr (Or.inr (Or.inr (Or.inl (by omega))))))); exact Or.inr (Or.inr (Or.inr (Or.inr (Or.inr (Or.inr (Or.inr ((by omega)))))))))) f32 (fun i k h => by (try dsimp only at h); rcases h with h | h | h | h; exact Or.inl (by omega); exact Or.inr (Or.inl (by omega)); exact Or.inr (Or.inr (Or.inl (by omega))); exact Or.inr (Or.inr (Or.inr (Or.inl (by omega))))) (fun i h => h.elim)), (by (try dsimp only); omega)⟩ ?_
            (try dsimp only); omega
      · skip
        have c39 := wt_nceq h20
        refine wt_T_some ?_
        exact (wt_fr.tr (wt_fr.tr (wt_fr.tr wt_fr.rf f4 (fun i k h => by (try dsimp only at h); exact Or.inl (by omega)) (fun i h => by (try dsimp only at h); rcases h with h | h | h | h | h | h | h; exact Or.inl (by omega); exact Or.inr (Or.inl (by omega)); exact Or.inr (Or.inr (Or.inl (by omega))); exact Or.inr (Or.inr (Or.inr (Or.inl (by omega)))); exact Or.inr (Or.inr (Or.inr (Or.inr (Or.inl (by omega))))); exact Or.inr (Or.inr (Or.inr (Or.inr (Or.inr (Or.inl (by omega)))))); exact Or.inr (Or.inr (Or.inr (Or.inr (Or.inr (Or.inr (Or.inl (by omega))))))))) l8 (fun i k h => by (try dsimp only at h); rcases h with h | h | h | h | h; exact Or.inr (Or.inl (by omega)); exact Or.inr (Or.inr (Or.inl (by omega))); exact Or.inr (Or.inr (Or.inr (Or.inl (by omega)))); exact Or.inr (Or.inr (Or.inr (Or.inr ((by omega))))); exact Or.inl (by omega)) (fun i h => by (try dsimp only at h); rcases h with h | h | h | h | h | h | h | h; exact Or.inr (Or.inr (Or.inr (Or.inr (Or.inr (Or.inr (Or.inr ((by omega)))))))); exact Or.inr (Or.inr (Or.inr (Or.inr (Or.inr (Or.inr (Or.inl (by omega))))))); exact Or.inr (Or.inr (Or.inr (Or.inr (Or.inr (Or.inl (by omega)))))); exact Or.inr (Or.inr (Or.inr (Or.inr (Or.inl (by omega))))); exact Or.inr (Or.inr (Or.inl (by omega))); exact Or.inr (Or.inr (Or.inr (Or.inl (by omega)))); exact Or.inl (by omega); exact Or.inr (Or.inl (by omega)))) f18 (fun i k h => by (try dsimp only at h); rcases h with h | h; exact Or.inr (Or.inl (by omega)); exact Or.inr (Or.inr (Or.inl (by omega)))) (fun i h => h.elim))
  · skip
    have k40 : (60 : Int32).toInt = 60 := by decide
    exact ⟨wt_fr.rf, (by (try dsimp only); omega)⟩
  · skip
    have k41 : (60 : Int32).toInt = 60 := by decide
    (try dsimp only); omega
set_option maxRecDepth 100000 in
set_option maxHeartbeats 4000000 in
theorem wq_st_clearPages (n : Nat) (hn : 4294967297 < n) (t0 : Nat) (σ : wt_St) : wt_T (wp_st_clearPages n t0 σ) (fun q => wt_fr (fun i k => False) (fun i => i = t0 + 2 ∨ i = t0 + 4) σ q) := by
  unfold wp_st_clearPages
  have b1 := wt_bd n
  have k2 : (-1 : Int32).toInt = -1 := by decide
  refine wt_T_bi (wq_ap_fillRow n hn (t0 + 2) (-1 : Int32) σ) (fun q3 h4 => ?_)
  have f5 := h4
  refine wt_T_bi (wq_ap_fillRow n hn (t0 + 4) (-1 : Int32) q3) (fun q6 h7 => ?_)
  have f8 := h7
  refine wt_T_some ?_
  exact (wt_fr.tr (wt_fr.tr wt_fr.rf f5 (fun i k h => h.elim) (fun i h => by (try dsimp only at h); exact Or.inl (by omega))) f8 (fun i k h => h.elim) (fun i h => by (try dsimp only at h); exact Or.inr ((by omega))))
set_option maxRecDepth 100000 in
set_option maxHeartbeats 4000000 in
theorem wq_st_lay (n : Nat) (hn : 4294967297 < n) (t0 : Nat) (t1 : Nat) (σ : wt_St) : wt_T (wp_st_lay n t0 t1 σ) (fun q => wt_fr (fun i k => False) (fun i => i = t0 + 1 ∨ i = t0 + 2 ∨ i = t0 + 4) σ q) := by
  unfold wp_st_lay
  have b1 := wt_bd n
  refine wt_T_bi (wq_ap_copyRow n hn (t1 + 2) (t0 + 1) σ) (fun q2 h3 => ?_)
  have f4 := h3
  refine wt_T_bi (wq_st_clearPages n hn t0 q2) (fun q5 h6 => ?_)
  have f7 := h6
  refine wt_T_some ?_
  exact (wt_fr.tr (wt_fr.tr wt_fr.rf f4 (fun i k h => h.elim) (fun i h => by (try dsimp only at h); exact Or.inl (by omega))) f7 (fun i k h => h.elim) (fun i h => by (try dsimp only at h); rcases h with h | h; exact Or.inr (Or.inl (by omega)); exact Or.inr (Or.inr ((by omega)))))
set_option maxRecDepth 100000 in
set_option maxHeartbeats 4000000 in
theorem wq_sk_piecesOfAll (n : Nat) (hn : 4294967297 < n) (σ : wt_St) : wt_T (wp_sk_piecesOfAll n σ) (fun q => q.2 = σ) := by
  unfold wp_sk_piecesOfAll
  have k6 : (0 : Int32).toInt = 0 := by decide
  refine wt_T_it (fun s : Int32 × Int32 × wt_St => s.2.2 = σ ∧ 0 ≤ (s.2.1).toInt) (fun s : Int32 × Int32 × wt_St => ((26 : Int32).toInt - s.2.1.toInt + 0).toNat) (fun K1 s2 I3 hK1 => ?_) _ _ ?_ ?_
  · skip
    obtain ⟨l4, l5⟩ := I3
    unfold wp_sk_piecesOfAll_B4
    rw [l4]
    have k7 : (26 : Int32).toInt = 26 := by decide
    have b8 := wt_bd s2.2.1
    refine wt_T_if (fun h9 => ?_) (fun h9 => ?_)
    · skip
      have c10 := wt_cle h9
      refine wt_T_some ?_
      exact rfl
    · skip
      have c11 := wt_ncle h9
      have b12 := wt_bd n
      refine wt_T_bi (wq_sk_pieces n hn s2.2.1 σ) (fun q13 h14 => ?_)
      obtain ⟨e15, e15v⟩ := h14
      have e16 := wt_ceq e15v
      have b17 := wt_bd (wt_lk 5 s2.2.1 σ)
      have b18 := wt_bd q13.1
      rw [e15]
      have b19 := wt_bd s2.1
      obtain ⟨j20, j20a, j20b⟩ := wt_addI s2.1 q13.1
      have k21 : (1 : Int32).toInt = 1 := by decide
      obtain ⟨j22, j22a, j22b⟩ := wt_addI s2.2.1 (1 : Int32)
      refine hK1 _ ⟨rfl, (by (try dsimp only); omega)⟩ ?_
      (try dsimp only); omega
  · skip
    have k23 : (26 : Int32).toInt = 26 := by decide
    exact ⟨rfl, (by (try dsimp only); omega)⟩
  · skip
    have k24 : (26 : Int32).toInt = 26 := by decide
    (try dsimp only); omega
set_option maxRecDepth 100000 in
set_option maxHeartbeats 4000000 in
theorem wq_tp_begin (n : Nat) (hn : 4294967297 < n) (x1 : Int32) (σ : wt_St) : wt_T (wp_tp_begin n x1 σ) (fun q => wt_fr (fun i k => (i = 1 ∧ k = 2) ∨ (i = 1 ∧ k = 3) ∨ (i = 1 ∧ k = 4) ∨ (i = 1 ∧ k = 5) ∨ (i = 1 ∧ k = 6) ∨ (i = 1 ∧ k = 7)) (fun i => False) σ q) := by
  unfold wp_tp_begin
  obtain ⟨σ1, eσ1⟩ : ∃ z : wt_St, z = wt_sf σ 1 2 (0 : Int32) := ⟨_, rfl⟩
  rw [← eσ1]
  have fσ1 := wt_fr_sf eσ1
  have vσ1 := wt_ceq (wt_v_sf eσ1)
  have k2 : (0 : Int32).toInt = 0 := by decide
  obtain ⟨σ3, eσ3⟩ : ∃ z : wt_St, z = wt_sf σ1 1 3 x1 := ⟨_, rfl⟩
  rw [← eσ3]
  have fσ3 := wt_fr_sf eσ3
  have vσ3 := wt_ceq (wt_v_sf eσ3)
  have b4 := wt_bd x1
  obtain ⟨σ5, eσ5⟩ : ∃ z : wt_St, z = wt_sf σ3 1 4 (0 : Int32) := ⟨_, rfl⟩
  rw [← eσ5]
  have fσ5 := wt_fr_sf eσ5
  have vσ5 := wt_ceq (wt_v_sf eσ5)
  obtain ⟨σ6, eσ6⟩ : ∃ z : wt_St, z = wt_sf σ5 1 5 (0 : Int32) := ⟨_, rfl⟩
  rw [← eσ6]
  have fσ6 := wt_fr_sf eσ6
  have vσ6 := wt_ceq (wt_v_sf eσ6)
  obtain ⟨σ7, eσ7⟩ : ∃ z : wt_St, z = wt_sf σ6 1 6 (0 : Int32) := ⟨_, rfl⟩
  rw [← eσ7]
  have fσ7 := wt_fr_sf eσ7
  have vσ7 := wt_ceq (wt_v_sf eσ7)
  obtain ⟨σ8, eσ8⟩ : ∃ z : wt_St, z = wt_sf σ7 1 7 (-1 : Int32) := ⟨_, rfl⟩
  rw [← eσ8]
  have fσ8 := wt_fr_sf eσ8
  have vσ8 := wt_ceq (wt_v_sf eσ8)
  have k9 : (-1 : Int32).toInt = -1 := by decide
  refine wt_T_some ?_
  exact (wt_fr.tr (wt_fr.tr (wt_fr.tr (wt_fr.tr (wt_fr.tr (wt_fr.tr wt_fr.rf fσ1 (fun i k h => by (try dsimp only at h); exact Or.inl (by omega)) (fun i h => h.elim)) fσ3 (fun i k h => by (try dsimp only at h); exact Or.inr (Or.inl (by omega))) (fun i h => h.elim)) fσ5 (fun i k h => by (try dsimp only at h); exact Or.inr (Or.inr (Or.inl (by omega)))) (fun i h => h.elim)) fσ6 (fun i k h => by (try dsimp only at h); exact Or.inr (Or.inr (Or.inr (Or.inl (by omega))))) (fun i h => h.elim)) fσ7 (fun i k h => by (try dsimp only at h); exact Or.inr (Or.inr (Or.inr (Or.inr (Or.inl (by omega)))))) (fun i h => h.elim)) fσ8 (fun i k h => by (try dsimp only at h); exact Or.inr (Or.inr (Or.inr (Or.inr (Or.inr ((by omega))))))) (fun i h => h.elim))
set_option maxRecDepth 100000 in
set_option maxHeartbeats 4000000 in
theorem wq_rw_sumAt (n : Nat) (hn : 4294967297 < n) (x1 : Int32) (x2 : Int32) (x3 : Int32) (σ : wt_St) : wt_T (wp_rw_sumAt n x1 x2 x3 σ) (fun q => q.2 = σ) := by
  unfold wp_rw_sumAt
  have b1 := wt_bd n
  have b2 := wt_bd x1
  have b3 := wt_bd x2
  refine wt_T_bi (wq_tx_wordAt n hn x1 x2 σ) (fun q4 h5 => ?_)
  have e6 := h5
  rw [e6]
  have b7 := wt_bd q4.1
  refine wt_T_bi (wq_tg_firstLike n hn 20 q4.1 σ) (fun q8 h9 => ?_)
  have e10 := h9
  rw [e10]
  have k11 : (5 : Int32).toInt = 5 := by decide
  obtain ⟨j12, j12a, j12b⟩ := wt_mulI x2 (5 : Int32)
  have b13 := wt_bd x3
  obtain ⟨j14, j14a, j14b⟩ := wt_addI (x2 * (5 : Int32)) x3
  have b15 := wt_bd q8.1
  obtain ⟨j16, j16a, j16b⟩ := wt_subI ((x2 * (5 : Int32)) + x3) q8.1
  refine wt_T_bi (wq_ap_look n hn 82 (((x2 * (5 : Int32)) + x3) - q8.1) σ) (fun q17 h18 => ?_)
  obtain ⟨e19, e19v⟩ := h18
  have e20 := wt_ceq e19v
  have b21 := wt_bd (wt_lk 82 (((x2 * (5 : Int32)) + x3) - q8.1) σ)
  have b22 := wt_bd q17.1
  rw [e19]
  refine wt_T_some ?_
  exact rfl
set_option maxRecDepth 100000 in
set_option maxHeartbeats 4000000 in
theorem wq_rw_cheapestBehind (n : Nat) (hn : 4294967297 < n) (x1 : Int32) (x2 : Int32) (x3 : Int32) (σ : wt_St) : wt_T (wp_rw_cheapestBehind n x1 x2 x3 σ) (fun q => q.2 = σ) := by
  unfold wp_rw_cheapestBehind
  have b1 := wt_bd n
  have b2 := wt_bd x1
  have b3 := wt_bd x2
  have k4 : (1 : Int32).toInt = 1 := by decide
  obtain ⟨j5, j5a, j5b⟩ := wt_addI x2 (1 : Int32)
  refine wt_T_bi (wq_tx_wordAt n hn x1 (x2 + (1 : Int32)) σ) (fun q6 h7 => ?_)
  have e8 := h7
  rw [e8]
  have k14 : (-1 : Int32).toInt = -1 := by decide
  have k15 : (1000000 : Int32).toInt = 1000000 := by decide
  have k16 : (0 : Int32).toInt = 0 := by decide
  refine wt_T_it (fun s : Int32 × Int32 × Int32 × wt_St => s.2.2.2 = σ ∧ 0 ≤ (s.2.2.1).toInt) (fun s : Int32 × Int32 × Int32 × wt_St => ((wt_lk2 26 24 q6.1 s.2.2.2).toInt - s.2.2.1.toInt + 0).toNat) (fun K9 s10 I11 hK9 => ?_) _ _ ?_ ?_
  · skip
    obtain ⟨l12, l13⟩ := I11
    unfold wp_rw_cheapestBehind_B23
    rw [l12]
    have b17 := wt_bd (wt_lk2 26 24 q6.1 σ)
    have b18 := wt_bd s10.2.2.1
    have b19 := wt_bd q6.1
    refine wt_T_bi (wq_tg_membersLike n hn 20 q6.1 σ) (fun q20 h21 => ?_)
    obtain ⟨e22, e22v⟩ := h21
    have e23 := wt_ceq e22v
    have b24 := wt_bd q20.1
    rw [e22]
    refine wt_T_if (fun h25 => ?_) (fun h25 => ?_)
    · skip
      have c26 := wt_cle h25
      refine wt_T_some ?_
      exact rfl
    · skip
      have c27 := wt_ncle h25
      refine wt_T_bi (wq_tg_firstLike n hn 20 q6.1 σ) (fun q28 h29 => ?_)
      have e30 := h29
      rw [e30]
      have b31 := wt_bd q28.1
      obtain ⟨j32, j32a, j32b⟩ := wt_addI q28.1 s10.2.2.1
      refine wt_T_bi (wq_rw_sumAt n hn x1 (x2 + (1 : Int32)) (q28.1 + s10.2.2.1) σ) (fun q33 h34 => ?_)
      have e35 := h34
      rw [e35]
      have b36 := wt_bd q33.1
      refine wt_T_if (fun h37 => ?_) (fun h37 => ?_)
      · skip
        have c38 := wt_ceq h37
        unfold wp_rw_cheapestBehind_B94
        have b39 := wt_bd s10.1
        have b40 := wt_bd s10.2.1
        obtain ⟨j41, j41a, j41b⟩ := wt_addI s10.2.2.1 (1 : Int32)
        refine hK9 _ ⟨rfl, (by (try dsimp only); omega)⟩ ?_
        (try dsimp only); omega
      · skip
        have c42 := wt_nceq h37
        have b43 := wt_bd s10.2.1
        refine wt_T_if (fun h44 => ?_) (fun h44 => ?_)
        · skip
          have c45 := wt_cle h44
          unfold wp_rw_cheapestBehind_B94
          have b46 := wt_bd s10.1
          obtain ⟨j47, j47a, j47b⟩ := wt_addI s10.2.2.1 (1 : Int32)
          refine hK9 _ ⟨rfl, (by (try dsimp only); omega)⟩ ?_
          (try dsimp only); omega
        · skip
          have c48 := wt_ncle h44
          have b49 := wt_bd x3
          refine wt_T_bi (wq_rw_mayFollow n hn x3 (q28.1 + s10.2.2.1) σ) (fun q50 h51 => ?_)
          have e52 := h51
          rw [e52]
          have b53 := wt_bd q50.1
          refine wt_T_if (fun h54 => ?_) (fun h54 => ?_)
          · skip
            have c55 := wt_ceq h54
            unfold wp_rw_cheapestBehind_B94
            have b56 := wt_bd s10.1
            obtain ⟨j57, j57a, j57b⟩ := wt_addI s10.2.2.1 (1 : Int32)
            refine hK9 _ ⟨rfl, (by (try dsimp only); omega)⟩ ?_
            (try dsimp only); omega
          · skip
            have c58 := wt_nceq h54
            unfold wp_rw_cheapestBehind_B94
            obtain ⟨j59, j59a, j59b⟩ := wt_addI s10.2.2.1 (1 : Int32)
            refine hK9 _ ⟨rfl, (by (try dsimp only); omega)⟩ ?_
            (try dsimp only); omega
  · skip
    have b60 := wt_bd (wt_lk2 26 24 q6.1 σ)
    exact ⟨rfl, (by (try dsimp only); omega)⟩
  · skip
    have b61 := wt_bd (wt_lk2 26 24 q6.1 σ)
    (try dsimp only); omega
set_option maxRecDepth 100000 in
set_option maxHeartbeats 4000000 in
theorem wq_rw_leastFrom (n : Nat) (hn : 4294967297 < n) (x1 : Int32) (x2 : Int32) (x3 : Int32) (σ : wt_St) : wt_T (wp_rw_leastFrom n x1 x2 x3 σ) (fun q => q.2 = σ) := by
  unfold wp_rw_leastFrom
  have b1 := wt_bd n
  have b2 := wt_bd x1
  refine wt_T_bi (wq_tx_lengthOf n hn x1 σ) (fun q3 h4 => ?_)
  obtain ⟨e5, e5v⟩ := h4
  have e6 := wt_ceq e5v
  have b7 := wt_bd (wt_lk 36 x1 σ)
  have b8 := wt_bd q3.1
  rw [e5]
  have b9 := wt_bd x2
  have k10 : (1 : Int32).toInt = 1 := by decide
  obtain ⟨j11, j11a, j11b⟩ := wt_addI x2 (1 : Int32)
  refine wt_T_if (fun h12 => ?_) (fun h12 => ?_)
  · skip
    have c13 := wt_clt h12
    have b14 := wt_bd x3
    refine wt_T_bi (wq_rw_cheapestBehind n hn x1 x2 x3 σ) (fun q15 h16 => ?_)
    have e17 := h16
    have b18 := wt_bd q15.1
    have k19 : (-1 : Int32).toInt = -1 := by decide
    refine wt_T_if (fun h20 => ?_) (fun h20 => ?_)
    · skip
      have c21 := wt_ceq h20
      refine wt_T_some ?_
      exact rfl
    · skip
      have c22 := wt_nceq h20
      refine wt_T_bi (wq_rw_priceOf n hn x3 σ) (fun q23 h24 => ?_)
      have e25 := h24
      rw [e25]
      refine wt_T_bi (wq_rw_sumAt n hn x1 (x2 + (1 : Int32)) q15.1 σ) (fun q26 h27 => ?_)
      have e28 := h27
      rw [e28]
      refine wt_T_some ?_
      exact rfl
  · skip
    have c29 := wt_ncl h12
    have b30 := wt_bd x3
    refine wt_T_bi (wq_rw_priceOf n hn x3 σ) (fun q31 h32 => ?_)
    have e33 := h32
    rw [e33]
    refine wt_T_some ?_
    exact rfl
set_option maxRecDepth 100000 in
set_option maxHeartbeats 4000000 in
theorem wq_rw_findLeast (n : Nat) (hn : 4294967297 < n) (x1 : Int32) (σ : wt_St) : wt_T (wp_rw_findLeast n x1 σ) (fun q => wt_fr (fun i k => (i = 81 ∧ k = 9)) (fun i => i = 85 ∨ i = 82) σ q) := by
  unfold wp_rw_findLeast
  have b1 := wt_bd n
  have b2 := wt_bd x1
  refine wt_T_bi (wq_tx_lengthOf n hn x1 σ) (fun q3 h4 => ?_)
  obtain ⟨e5, e5v⟩ := h4
  have e6 := wt_ceq e5v
  have b7 := wt_bd (wt_lk 36 x1 σ)
  have b8 := wt_bd q3.1
  rw [e5]
  have k13 : (1 : Int32).toInt = 1 := by decide
  obtain ⟨j14, j14a, j14b⟩ := wt_subI q3.1 (1 : Int32)
  refine wt_T_it (fun s : Int32 × wt_St => wt_fr (fun i k => False) (fun i => i = 82) σ s.2) (fun s : Int32 × wt_St => (s.1.toInt + 1).toNat) (fun K9 s10 I11 hK9 => ?_) _ _ ?_ ?_
  · skip
    have l12 := I11
    unfold wp_rw_findLeast_B13
    have b15 := wt_bd s10.1
    have k16 : (0 : Int32).toInt = 0 := by decide
    refine wt_T_if (fun h17 => ?_) (fun h17 => ?_)
    · skip
      have c18 := wt_clt h17
      obtain ⟨σ19, eσ19⟩ : ∃ z : wt_St, z = wt_sf s10.2 81 9 (-1 : Int32) := ⟨_, rfl⟩
      rw [← eσ19]
      have fσ19 := wt_fr_sf eσ19
      have vσ19 := wt_ceq (wt_v_sf eσ19)
      have k20 : (-1 : Int32).toInt = -1 := by decide
      refine wt_T_it (fun s : Int32 × Int32 × wt_St => wt_fr (fun i k => (i = 81 ∧ k = 9)) (fun i => i = 85) σ19 s.2.2 ∧ 0 ≤ (s.2.1).toInt) (fun s : Int32 × Int32 × wt_St => (q3.1.toInt - s.2.1.toInt + 0).toNat) (fun K21 s22 I23 hK21 => ?_) _ _ ?_ ?_
      · skip
        obtain ⟨l24, l25⟩ := I23
        unfold wp_rw_findLeast_B98
        have b26 := wt_bd s22.2.1
        refine wt_T_if (fun h27 => ?_) (fun h27 => ?_)
        · skip
          have c28 := wt_cle h27
          refine wt_T_some ?_
          exact (wt_fr.tr (wt_fr.tr (wt_fr.tr wt_fr.rf l12 (fun i k h => h.elim) (fun i h => by (try dsimp only at h); exact Or.inr ((by omega)))) fσ19 (fun i k h => by (try dsimp only at h); exact (by omega)) (fun i h => h.elim)) l24 (fun i k h => by (try dsimp only at h); exact (by omega)) (fun i h => by (try dsimp only at h); exact Or.inl (by omega)))
        · skip
          have c29 := wt_ncle h27
          obtain ⟨j30, j30a, j30b⟩ := wt_subI s22.2.1 (1 : Int32)
          have b31 := wt_bd s22.1
          refine wt_T_bi (wq_rw_cheapestBehind n hn x1 (s22.2.1 - (1 : Int32)) s22.1 s22.2.2) (fun q32 h33 => ?_)
          have e34 := h33
          rw [e34]
          have b35 := wt_bd q32.1
          refine wt_T_if (fun h36 => ?_) (fun h36 => ?_)
          · skip
            have c37 := wt_ceq h36
            refine wt_T_some ?_
            exact (wt_fr.tr (wt_fr.tr (wt_fr.tr wt_fr.rf l12 (fun i k h => h.elim) (fun i h => by (try dsimp only at h); exact Or.inr ((by omega)))) fσ19 (fun i k h => by (try dsimp only at h); exact (by omega)) (fun i h => h.elim)) l24 (fun i k h => by (try dsimp only at h); exact (by omega)) (fun i h => by (try dsimp only at h); exact Or.inl (by omega)))
          · skip
            have c38 := wt_nceq h36
            refine wt_T_bi (wq_ap_put n hn 85 s22.2.1 q32.1 s22.2.2) (fun q39 h40 => ?_)
            have f41 := h40
            refine wt_T_if (fun h42 => ?_) (fun h42 => ?_)
            · skip
              have c43 := wt_ceq h42
              refine wt_T_bi (wq_rw_sumAt n hn x1 (0 : Int32) q32.1 q39) (fun q44 h45 => ?_)
              have e46 := h45
              rw [e46]
              unfold wp_rw_findLeast_B151
              obtain ⟨σ47, eσ47⟩ : ∃ z : wt_St, z = wt_sf q39 81 9 q44.1 := ⟨_, rfl⟩
              rw [← eσ47]
              have fσ47 := wt_fr_sf eσ47
              have vσ47 := wt_ceq (wt_v_sf eσ47)
              have b48 := wt_bd q44.1
              obtain ⟨j49, j49a, j49b⟩ := wt_addI s22.2.1 (1 : Int32)
              refine hK21 _ ⟨(wt_fr.tr (wt_fr.tr (wt_fr.tr wt_fr.rf l24 (fun i k h => by (try dsimp only at h); exact (by omega)) (fun i h => by (try dsimp only at h); exact (by omega))) f41 (fun i k h => h.elim) (fun i h => by (try dsimp only at h); exact (by omega))) fσ47 (fun i k h => by (try dsimp only at h); exact (by omega)) (fun i h => h.elim)), (by (try dsimp only); omega)⟩ ?_
              (try dsimp only); omega
            · skip
              have c50 := wt_nceq h42
              unfold wp_rw_findLeast_B151
              obtain ⟨σ51, eσ51⟩ : ∃ z : wt_St, z = wt_sf q39 81 9 (wt_gf q39 81 9) := ⟨_, rfl⟩
              rw [← eσ51]
              have fσ51 := wt_fr_sf eσ51
              have vσ51 := wt_ceq (wt_v_sf eσ51)
              have b52 := wt_bd (wt_gf q39 81 9)
              have t53 : (wt_gf q39 81 9).toInt = (wt_gf s22.2.2 81 9).toInt := congrArg Int32.toInt (f41.1 81 9 (fun z => z))
              have b54 := wt_bd (wt_gf s22.2.2 81 9)
              obtain ⟨j55, j55a, j55b⟩ := wt_addI s22.2.1 (1 : Int32)
              refine hK21 _ ⟨(wt_fr.tr (wt_fr.tr (wt_fr.tr wt_fr.rf l24 (fun i k h => by (try dsimp only at h); exact (by omega)) (fun i h => by (try dsimp only at h); exact (by omega))) f41 (fun i k h => h.elim) (fun i h => by (try dsimp only at h); exact (by omega))) fσ51 (fun i k h => by (try dsimp only at h); exact (by omega)) (fun i h => h.elim)), (by (try dsimp only); omega)⟩ ?_
              (try dsimp only); omega
      · skip
        exact ⟨wt_fr.rf, (by (try dsimp only); omega)⟩
      · skip
        (try dsimp only); omega
    · skip
      have c56 := wt_ncl h17
      refine wt_T_bi (wq_tx_wordAt n hn x1 s10.1 s10.2) (fun q57 h58 => ?_)
      have e59 := h58
      rw [e59]
      refine wt_T_it (fun s : Int32 × wt_St => wt_fr (fun i k => False) (fun i => i = 82) s10.2 s.2 ∧ 0 ≤ (s.1).toInt) (fun s : Int32 × wt_St => ((wt_lk2 26 24 q57.1 s.2).toInt - s.1.toInt + 0).toNat) (fun K60 s61 I62 hK60 => ?_) _ _ ?_ ?_
      · skip
        obtain ⟨l63, l64⟩ := I62
        unfold wp_rw_findLeast_B31
        have b65 := wt_bd (wt_lk2 26 24 q57.1 s61.2)
        have t66 : (wt_lk2 26 24 q57.1 s61.2).toInt = (wt_lk2 26 24 q57.1 s10.2).toInt := congrArg Int32.toInt (wt_lk2_fr (l63.2 26 (by (try dsimp only); omega)) (l63.2 24 (by (try dsimp only); omega)))
        have b67 := wt_bd (wt_lk2 26 24 q57.1 s10.2)
        have t68 : (wt_lk2 26 24 q57.1 s10.2).toInt = (wt_lk2 26 24 q57.1 σ).toInt := congrArg Int32.toInt (wt_lk2_fr (l12.2 26 (by (try dsimp only); omega)) (l12.2 24 (by (try dsimp only); omega)))
        have b69 := wt_bd (wt_lk2 26 24 q57.1 σ)
        have b70 := wt_bd s61.1
        have b71 := wt_bd q57.1
        refine wt_T_bi (wq_tg_membersLike n hn 20 q57.1 s61.2) (fun q72 h73 => ?_)
        obtain ⟨e74, e74v⟩ := h73
        have e75 := wt_ceq e74v
        have b76 := wt_bd q72.1
        rw [e74]
        refine wt_T_if (fun h77 => ?_) (fun h77 => ?_)
        · skip
          have c78 := wt_cle h77
          have k79 : (-1 : Int32).toInt = -1 := by decide
          obtain ⟨j80, j80a, j80b⟩ := wt_addI s10.1 (-1 : Int32)
          refine hK9 _ (wt_fr.tr (wt_fr.tr wt_fr.rf l12 (fun i k h => h.elim) (fun i h => by (try dsimp only at h); exact (by omega))) l63 (fun i k h => h.elim) (fun i h => by (try dsimp only at h); exact (by omega))) ?_
          (try dsimp only); omega
        · skip
          have c81 := wt_ncle h77
          refine wt_T_bi (wq_tg_firstLike n hn 20 q57.1 s61.2) (fun q82 h83 => ?_)
          have e84 := h83
          rw [e84]
          have b85 := wt_bd q82.1
          obtain ⟨j86, j86a, j86b⟩ := wt_addI q82.1 s61.1
          refine wt_T_bi (wq_rw_leastFrom n hn x1 s10.1 (q82.1 + s61.1) s61.2) (fun q87 h88 => ?_)
          have e89 := h88
          rw [e89]
          have k90 : (5 : Int32).toInt = 5 := by decide
          obtain ⟨j91, j91a, j91b⟩ := wt_mulI s10.1 (5 : Int32)
          obtain ⟨j92, j92a, j92b⟩ := wt_addI (s10.1 * (5 : Int32)) s61.1
          have b93 := wt_bd q87.1
          refine wt_T_bi (wq_ap_put n hn 82 ((s10.1 * (5 : Int32)) + s61.1) q87.1 s61.2) (fun q94 h95 => ?_)
          have f96 := h95
          obtain ⟨j97, j97a, j97b⟩ := wt_addI s61.1 (1 : Int32)
          have b98 := wt_bd (wt_lk2 26 24 q57.1 q94)
          have t99 : (wt_lk2 26 24 q57.1 q94).toInt = (wt_lk2 26 24 q57.1 s61.2).toInt := congrArg Int32.toInt (wt_lk2_fr (f96.2 26 (by (try dsimp only); omega)) (f96.2 24 (by (try dsimp only); omega)))
          refine hK60 _ ⟨(wt_fr.tr (wt_fr.tr wt_fr.rf l63 (fun i k h => h.elim) (fun i h => by (try dsimp only at h); exact (by omega))) f96 (fun i k h => h.elim) (fun i h => by (try dsimp only at h); exact (by omega))), (by (try dsimp only); omega)⟩ ?_
          (try dsimp only); omega
      · skip
        have b100 := wt_bd (wt_lk2 26 24 q57.1 s10.2)
        have t101 : (wt_lk2 26 24 q57.1 s10.2).toInt = (wt_lk2 26 24 q57.1 σ).toInt := congrArg Int32.toInt (wt_lk2_fr (l12.2 26 (by (try dsimp only); omega)) (l12.2 24 (by (try dsimp only); omega)))
        have b102 := wt_bd (wt_lk2 26 24 q57.1 σ)
        exact ⟨wt_fr.rf, (by (try dsimp only); omega)⟩
      · skip
        have b103 := wt_bd (wt_lk2 26 24 q57.1 s10.2)
        have t104 : (wt_lk2 26 24 q57.1 s10.2).toInt = (wt_lk2 26 24 q57.1 σ).toInt := congrArg Int32.toInt (wt_lk2_fr (l12.2 26 (by (try dsimp only); omega)) (l12.2 24 (by (try dsimp only); omega)))
        have b105 := wt_bd (wt_lk2 26 24 q57.1 σ)
        (try dsimp only); omega
  · skip
    exact wt_fr.rf
  · skip
    (try dsimp only); omega
set_option maxRecDepth 100000 in
set_option maxHeartbeats 4000000 in
theorem wq_sk_leftOfAll (n : Nat) (hn : 4294967297 < n) (x1 : Int32) (σ : wt_St) : wt_T (wp_sk_leftOfAll n x1 σ) (fun q => q.2 = σ) := by
  unfold wp_sk_leftOfAll
  have k6 : (0 : Int32).toInt = 0 := by decide
  refine wt_T_it (fun s : Int32 × Int32 × wt_St => s.2.2 = σ ∧ 0 ≤ (s.2.1).toInt) (fun s : Int32 × Int32 × wt_St => ((wt_lk 5 x1 s.2.2).toInt - s.2.1.toInt + 0).toNat) (fun K1 s2 I3 hK1 => ?_) _ _ ?_ ?_
  · skip
    obtain ⟨l4, l5⟩ := I3
    unfold wp_sk_leftOfAll_B4
    rw [l4]
    have b7 := wt_bd (wt_lk 5 x1 σ)
    have b8 := wt_bd s2.2.1
    have b9 := wt_bd n
    have b10 := wt_bd x1
    refine wt_T_bi (wq_sk_pieces n hn x1 σ) (fun q11 h12 => ?_)
    obtain ⟨e13, e13v⟩ := h12
    have e14 := wt_ceq e13v
    have b15 := wt_bd q11.1
    rw [e13]
    refine wt_T_if (fun h16 => ?_) (fun h16 => ?_)
    · skip
      have c17 := wt_cle h16
      refine wt_T_some ?_
      exact rfl
    · skip
      have c18 := wt_ncle h16
      have k19 : (12 : Int32).toInt = 12 := by decide
      obtain ⟨j20, j20a, j20b⟩ := wt_mulI x1 (12 : Int32)
      obtain ⟨j21, j21a, j21b⟩ := wt_addI (x1 * (12 : Int32)) s2.2.1
      refine wt_T_bi (wq_ap_look n hn 40 ((x1 * (12 : Int32)) + s2.2.1) σ) (fun q22 h23 => ?_)
      obtain ⟨e24, e24v⟩ := h23
      have e25 := wt_ceq e24v
      have b26 := wt_bd (wt_lk 40 ((x1 * (12 : Int32)) + s2.2.1) σ)
      have b27 := wt_bd q22.1
      rw [e24]
      have b28 := wt_bd s2.1
      obtain ⟨j29, j29a, j29b⟩ := wt_addI s2.1 q22.1
      have k30 : (1 : Int32).toInt = 1 := by decide
      obtain ⟨j31, j31a, j31b⟩ := wt_addI s2.2.1 (1 : Int32)
      refine hK1 _ ⟨rfl, (by (try dsimp only); omega)⟩ ?_
      (try dsimp only); omega
  · skip
    have b32 := wt_bd (wt_lk 5 x1 σ)
    exact ⟨rfl, (by (try dsimp only); omega)⟩
  · skip
    have b33 := wt_bd (wt_lk 5 x1 σ)
    (try dsimp only); omega
set_option maxRecDepth 100000 in
set_option maxHeartbeats 4000000 in
theorem wq_sk_mostLeft (n : Nat) (hn : 4294967297 < n) (x1 : Int32) (σ : wt_St) : wt_T (wp_sk_mostLeft n x1 σ) (fun q => q.2 = σ) := by
  unfold wp_sk_mostLeft
  have k6 : (0 : Int32).toInt = 0 := by decide
  refine wt_T_it (fun s : Int32 × Int32 × wt_St => s.2.2 = σ ∧ 0 ≤ (s.2.1).toInt) (fun s : Int32 × Int32 × wt_St => ((wt_lk 5 x1 s.2.2).toInt - s.2.1.toInt + 0).toNat) (fun K1 s2 I3 hK1 => ?_) _ _ ?_ ?_
  · skip
    obtain ⟨l4, l5⟩ := I3
    unfold wp_sk_mostLeft_B4
    rw [l4]
    have b7 := wt_bd (wt_lk 5 x1 σ)
    have b8 := wt_bd s2.2.1
    have b9 := wt_bd n
    have b10 := wt_bd x1
    refine wt_T_bi (wq_sk_pieces n hn x1 σ) (fun q11 h12 => ?_)
    obtain ⟨e13, e13v⟩ := h12
    have e14 := wt_ceq e13v
    have b15 := wt_bd q11.1
    rw [e13]
    refine wt_T_if (fun h16 => ?_) (fun h16 => ?_)
    · skip
      have c17 := wt_cle h16
      refine wt_T_some ?_
      exact rfl
    · skip
      have c18 := wt_ncle h16
      have k19 : (12 : Int32).toInt = 12 := by decide
      obtain ⟨j20, j20a, j20b⟩ := wt_mulI x1 (12 : Int32)
      obtain ⟨j21, j21a, j21b⟩ := wt_addI (x1 * (12 : Int32)) s2.2.1
      refine wt_T_bi (wq_ap_look n hn 40 ((x1 * (12 : Int32)) + s2.2.1) σ) (fun q22 h23 => ?_)
      obtain ⟨e24, e24v⟩ := h23
      have e25 := wt_ceq e24v
      have b26 := wt_bd (wt_lk 40 ((x1 * (12 : Int32)) + s2.2.1) σ)
      have b27 := wt_bd q22.1
      rw [e24]
      have b28 := wt_bd s2.1
      have b29 := wt_bd (if s2.1 < q22.1 then q22.1 else s2.1)
      have i30 : ((s2.1 < q22.1) ∧ (if s2.1 < q22.1 then q22.1 else s2.1) = q22.1) ∨ (¬ (s2.1 < q22.1) ∧ (if s2.1 < q22.1 then q22.1 else s2.1) = s2.1) := by
        by_cases h : s2.1 < q22.1
        · exact Or.inl ⟨h, if_pos h⟩
        · exact Or.inr ⟨h, if_neg h⟩
      have i31 : (s2.1.toInt < q22.1.toInt ∧ (if s2.1 < q22.1 then q22.1 else s2.1).toInt = q22.1.toInt) ∨ (q22.1.toInt ≤ s2.1.toInt ∧ (if s2.1 < q22.1 then q22.1 else s2.1).toInt = s2.1.toInt) := i30.elim (fun h => Or.inl ⟨(wt_clt h.1), wt_ceq h.2⟩) (fun h => Or.inr ⟨(wt_ncl h.1), wt_ceq h.2⟩)
      have k32 : (1 : Int32).toInt = 1 := by decide
      obtain ⟨j33, j33a, j33b⟩ := wt_addI s2.2.1 (1 : Int32)
      refine hK1 _ ⟨rfl, (by (try dsimp only); omega)⟩ ?_
      (try dsimp only); omega
  · skip
    have b34 := wt_bd (wt_lk 5 x1 σ)
    exact ⟨rfl, (by (try dsimp only); omega)⟩
  · skip
    have b35 := wt_bd (wt_lk 5 x1 σ)
    (try dsimp only); omega
set_option maxRecDepth 100000 in
set_option maxHeartbeats 4000000 in
theorem wq_sk_wornOut (n : Nat) (hn : 4294967297 < n) (x1 : Int32) (σ : wt_St) : wt_T (wp_sk_wornOut n x1 σ) (fun q => q.2 = σ) := by
  unfold wp_sk_wornOut
  have k6 : (0 : Int32).toInt = 0 := by decide
  refine wt_T_it (fun s : Int32 × Int32 × wt_St => s.2.2 = σ ∧ 0 ≤ (s.2.1).toInt) (fun s : Int32 × Int32 × wt_St => ((wt_lk 5 x1 s.2.2).toInt - s.2.1.toInt + 0).toNat) (fun K1 s2 I3 hK1 => ?_) _ _ ?_ ?_
  · skip
    obtain ⟨l4, l5⟩ := I3
    unfold wp_sk_wornOut_B4
    rw [l4]
    have b7 := wt_bd (wt_lk 5 x1 σ)
    have b8 := wt_bd s2.2.1
    have b9 := wt_bd n
    have b10 := wt_bd x1
    refine wt_T_bi (wq_sk_pieces n hn x1 σ) (fun q11 h12 => ?_)
    obtain ⟨e13, e13v⟩ := h12
    have e14 := wt_ceq e13v
    have b15 := wt_bd q11.1
    rw [e13]
    refine wt_T_if (fun h16 => ?_) (fun h16 => ?_)
    · skip
      have c17 := wt_cle h16
      refine wt_T_some ?_
      exact rfl
    · skip
      have c18 := wt_ncle h16
      have k19 : (12 : Int32).toInt = 12 := by decide
      obtain ⟨j20, j20a, j20b⟩ := wt_mulI x1 (12 : Int32)
      obtain ⟨j21, j21a, j21b⟩ := wt_addI (x1 * (12 : Int32)) s2.2.1
      refine wt_T_bi (wq_ap_look n hn 40 ((x1 * (12 : Int32)) + s2.2.1) σ) (fun q22 h23 => ?_)
      obtain ⟨e24, e24v⟩ := h23
      have e25 := wt_ceq e24v
      have b26 := wt_bd (wt_lk 40 ((x1 * (12 : Int32)) + s2.2.1) σ)
      have b27 := wt_bd q22.1
      rw [e24]
      refine wt_T_if (fun h28 => ?_) (fun h28 => ?_)
      · skip
        have c29 := wt_ceq h28
        unfold wp_sk_wornOut_B38
        have b30 := wt_bd s2.1
        have k31 : (1 : Int32).toInt = 1 := by decide
        obtain ⟨j32, j32a, j32b⟩ := wt_addI s2.1 (1 : Int32)
        obtain ⟨j33, j33a, j33b⟩ := wt_addI s2.2.1 (1 : Int32)
        refine hK1 _ ⟨rfl, (by (try dsimp only); omega)⟩ ?_
        (try dsimp only); omega
      · skip
        have c34 := wt_nceq h28
        unfold wp_sk_wornOut_B38
        have b35 := wt_bd s2.1
        obtain ⟨j36, j36a, j36b⟩ := wt_addI s2.1 (0 : Int32)
        have k37 : (1 : Int32).toInt = 1 := by decide
        obtain ⟨j38, j38a, j38b⟩ := wt_addI s2.2.1 (1 : Int32)
        refine hK1 _ ⟨rfl, (by (try dsimp only); omega)⟩ ?_
        (try dsimp only); omega
  · skip
    have b39 := wt_bd (wt_lk 5 x1 σ)
    exact ⟨rfl, (by (try dsimp only); omega)⟩
  · skip
    have b40 := wt_bd (wt_lk 5 x1 σ)
    (try dsimp only); omega
set_option maxRecDepth 100000 in
set_option maxHeartbeats 4000000 in
theorem wq_wk_wordsLost (n : Nat) (hn : 4294967297 < n) (σ : wt_St) : wt_T (wp_wk_wordsLost n σ) (fun q => wt_fr (fun i k => False) (fun i => i = 100) σ q.2) := by
  unfold wp_wk_wordsLost
  have k6 : (0 : Int32).toInt = 0 := by decide
  refine wt_T_it (fun s : Int32 × Int32 × wt_St => wt_fr (fun i k => False) (fun i => i = 100) σ s.2.2 ∧ 0 ≤ (s.2.1).toInt) (fun s : Int32 × Int32 × wt_St => ((wt_gf s.2.2 20 6).toInt - s.2.1.toInt + 0).toNat) (fun K1 s2 I3 hK1 => ?_) _ _ ?_ ?_
  · skip
    obtain ⟨l4, l5⟩ := I3
    unfold wp_wk_wordsLost_B4
    have b7 := wt_bd (wt_gf s2.2.2 20 6)
    have t8 : (wt_gf s2.2.2 20 6).toInt = (wt_gf σ 20 6).toInt := congrArg Int32.toInt (l4.1 20 6 (fun z => z))
    have b9 := wt_bd (wt_gf σ 20 6)
    have b10 := wt_bd s2.2.1
    refine wt_T_if (fun h11 => ?_) (fun h11 => ?_)
    · skip
      have c12 := wt_cle h11
      refine wt_T_some ?_
      exact (wt_fr.tr wt_fr.rf l4 (fun i k h => h.elim) (fun i h => by (try dsimp only at h); exact (by omega)))
    · skip
      have c13 := wt_ncle h11
      have b14 := wt_bd n
      refine wt_T_bi (wq_wk_stillSaid n hn s2.2.1 s2.2.2) (fun q15 h16 => ?_)
      have f17 := h16
      have b18 := wt_bd q15.1
      refine wt_T_if (fun h19 => ?_) (fun h19 => ?_)
      · skip
        have c20 := wt_ceq h19
        unfold wp_wk_wordsLost_B29
        have b21 := wt_bd s2.1
        have k22 : (1 : Int32).toInt = 1 := by decide
        obtain ⟨j23, j23a, j23b⟩ := wt_addI s2.1 (1 : Int32)
        obtain ⟨j24, j24a, j24b⟩ := wt_addI s2.2.1 (1 : Int32)
        have b25 := wt_bd (wt_gf q15.2 20 6)
        have t26 : (wt_gf q15.2 20 6).toInt = (wt_gf s2.2.2 20 6).toInt := congrArg Int32.toInt (f17.1 20 6 (fun z => z))
        refine hK1 _ ⟨(wt_fr.tr (wt_fr.tr wt_fr.rf l4 (fun i k h => h.elim) (fun i h => by (try dsimp only at h); exact (by omega))) f17 (fun i k h => h.elim) (fun i h => by (try dsimp only at h); exact (by omega))), (by (try dsimp only); omega)⟩ ?_
        (try dsimp only); omega
      · skip
        have c27 := wt_nceq h19
        unfold wp_wk_wordsLost_B29
        have b28 := wt_bd s2.1
        obtain ⟨j29, j29a, j29b⟩ := wt_addI s2.1 (0 : Int32)
        have k30 : (1 : Int32).toInt = 1 := by decide
        obtain ⟨j31, j31a, j31b⟩ := wt_addI s2.2.1 (1 : Int32)
        have b32 := wt_bd (wt_gf q15.2 20 6)
        have t33 : (wt_gf q15.2 20 6).toInt = (wt_gf s2.2.2 20 6).toInt := congrArg Int32.toInt (f17.1 20 6 (fun z => z))
        refine hK1 _ ⟨(wt_fr.tr (wt_fr.tr wt_fr.rf l4 (fun i k h => h.elim) (fun i h => by (try dsimp only at h); exact (by omega))) f17 (fun i k h => h.elim) (fun i h => by (try dsimp only at h); exact (by omega))), (by (try dsimp only); omega)⟩ ?_
        (try dsimp only); omega
  · skip
    have b34 := wt_bd (wt_gf σ 20 6)
    exact ⟨wt_fr.rf, (by (try dsimp only); omega)⟩
  · skip
    have b35 := wt_bd (wt_gf σ 20 6)
    (try dsimp only); omega
set_option maxRecDepth 100000 in
set_option maxHeartbeats 4000000 in
theorem wq_wk_keep (n : Nat) (hn : 4294967297 < n) (x1 : Int32) (x2 : Int32) (σ : wt_St) : wt_T (wp_wk_keep n x1 x2 σ) (fun q => wt_fr (fun i k => (i = 86 ∧ k = 8) ∨ (i = 86 ∧ k = 9) ∨ (i = 86 ∧ k = 10)) (fun i => False) σ q) := by
  unfold wp_wk_keep
  have b1 := wt_bd (wt_gf σ 86 8)
  have b2 := wt_bd x1
  refine wt_T_if (fun h3 => ?_) (fun h3 => ?_)
  · skip
    have c4 := wt_clt h3
    unfold wp_wk_keep_B24
    obtain ⟨σ5, eσ5⟩ : ∃ z : wt_St, z = wt_sf σ 86 8 x1 := ⟨_, rfl⟩
    rw [← eσ5]
    have fσ5 := wt_fr_sf eσ5
    have vσ5 := wt_ceq (wt_v_sf eσ5)
    obtain ⟨σ6, eσ6⟩ : ∃ z : wt_St, z = wt_sf σ5 86 9 x2 := ⟨_, rfl⟩
    rw [← eσ6]
    have fσ6 := wt_fr_sf eσ6
    have vσ6 := wt_ceq (wt_v_sf eσ6)
    have b7 := wt_bd x2
    unfold wp_wk_keep_B34
    obtain ⟨σ8, eσ8⟩ : ∃ z : wt_St, z = wt_sf σ6 86 10 ((wt_gf σ6 86 10) + (1 : Int32)) := ⟨_, rfl⟩
    rw [← eσ8]
    have fσ8 := wt_fr_sf eσ8
    have vσ8 := wt_ceq (wt_v_sf eσ8)
    have b9 := wt_bd (wt_gf σ6 86 10)
    have t10 : (wt_gf σ6 86 10).toInt = (wt_gf σ5 86 10).toInt := congrArg Int32.toInt (fσ6.1 86 10 (by (try dsimp only); omega))
    have b11 := wt_bd (wt_gf σ5 86 10)
    have t12 : (wt_gf σ5 86 10).toInt = (wt_gf σ 86 10).toInt := congrArg Int32.toInt (fσ5.1 86 10 (by (try dsimp only); omega))
    have b13 := wt_bd (wt_gf σ 86 10)
    have k14 : (1 : Int32).toInt = 1 := by decide
    obtain ⟨j15, j15a, j15b⟩ := wt_addI (wt_gf σ6 86 10) (1 : Int32)
    refine wt_T_some ?_
    exact (wt_fr.tr (wt_fr.tr (wt_fr.tr wt_fr.rf fσ5 (fun i k h => by (try dsimp only at h); exact Or.inl (by omega)) (fun i h => h.elim)) fσ6 (fun i k h => by (try dsimp only at h); exact Or.inr (Or.inl (by omega))) (fun i h => h.elim)) fσ8 (fun i k h => by (try dsimp only at h); exact Or.inr (Or.inr ((by omega)))) (fun i h => h.elim))
  · skip
    have c16 := wt_ncl h3
    refine wt_T_if (fun h17 => ?_) (fun h17 => ?_)
    · skip
      have c18 := wt_ceq h17
      have b19 := wt_bd (wt_gf σ 86 9)
      have b20 := wt_bd x2
      refine wt_T_if (fun h21 => ?_) (fun h21 => ?_)
      · skip
        have c22 := wt_cle h21
        unfold wp_wk_keep_B34
        obtain ⟨σ23, eσ23⟩ : ∃ z : wt_St, z = wt_sf σ 86 10 ((wt_gf σ 86 10) + (1 : Int32)) := ⟨_, rfl⟩
        rw [← eσ23]
        have fσ23 := wt_fr_sf eσ23
        have vσ23 := wt_ceq (wt_v_sf eσ23)
        have b24 := wt_bd (wt_gf σ 86 10)
        have k25 : (1 : Int32).toInt = 1 := by decide
        obtain ⟨j26, j26a, j26b⟩ := wt_addI (wt_gf σ 86 10) (1 : Int32)
        refine wt_T_some ?_
        exact (wt_fr.tr wt_fr.rf fσ23 (fun i k h => by (try dsimp only at h); exact Or.inr (Or.inr ((by omega)))) (fun i h => h.elim))
      · skip
        have c27 := wt_ncle h21
        unfold wp_wk_keep_B24
        obtain ⟨σ28, eσ28⟩ : ∃ z : wt_St, z = wt_sf σ 86 8 x1 := ⟨_, rfl⟩
        rw [← eσ28]
        have fσ28 := wt_fr_sf eσ28
        have vσ28 := wt_ceq (wt_v_sf eσ28)
        obtain ⟨σ29, eσ29⟩ : ∃ z : wt_St, z = wt_sf σ28 86 9 x2 := ⟨_, rfl⟩
        rw [← eσ29]
        have fσ29 := wt_fr_sf eσ29
        have vσ29 := wt_ceq (wt_v_sf eσ29)
        unfold wp_wk_keep_B34
        obtain ⟨σ30, eσ30⟩ : ∃ z : wt_St, z = wt_sf σ29 86 10 ((wt_gf σ29 86 10) + (1 : Int32)) := ⟨_, rfl⟩
        rw [← eσ30]
        have fσ30 := wt_fr_sf eσ30
        have vσ30 := wt_ceq (wt_v_sf eσ30)
        have b31 := wt_bd (wt_gf σ29 86 10)
        have t32 : (wt_gf σ29 86 10).toInt = (wt_gf σ28 86 10).toInt := congrArg Int32.toInt (fσ29.1 86 10 (by (try dsimp only); omega))
        have b33 := wt_bd (wt_gf σ28 86 10)
        have t34 : (wt_gf σ28 86 10).toInt = (wt_gf σ 86 10).toInt := congrArg Int32.toInt (fσ28.1 86 10 (by (try dsimp only); omega))
        have b35 := wt_bd (wt_gf σ 86 10)
        have k36 : (1 : Int32).toInt = 1 := by decide
        obtain ⟨j37, j37a, j37b⟩ := wt_addI (wt_gf σ29 86 10) (1 : Int32)
        refine wt_T_some ?_
        exact (wt_fr.tr (wt_fr.tr (wt_fr.tr wt_fr.rf fσ28 (fun i k h => by (try dsimp only at h); exact Or.inl (by omega)) (fun i h => h.elim)) fσ29 (fun i k h => by (try dsimp only at h); exact Or.inr (Or.inl (by omega))) (fun i h => h.elim)) fσ30 (fun i k h => by (try dsimp only at h); exact Or.inr (Or.inr ((by omega)))) (fun i h => h.elim))
    · skip
      have c38 := wt_nceq h17
      unfold wp_wk_keep_B34
      obtain ⟨σ39, eσ39⟩ : ∃ z : wt_St, z = wt_sf σ 86 10 ((wt_gf σ 86 10) + (1 : Int32)) := ⟨_, rfl⟩
      rw [← eσ39]
      have fσ39 := wt_fr_sf eσ39
      have vσ39 := wt_ceq (wt_v_sf eσ39)
      have b40 := wt_bd (wt_gf σ 86 10)
      have k41 : (1 : Int32).toInt = 1 := by decide
      obtain ⟨j42, j42a, j42b⟩ := wt_addI (wt_gf σ 86 10) (1 : Int32)
      refine wt_T_some ?_
      exact (wt_fr.tr wt_fr.rf fσ39 (fun i k h => by (try dsimp only at h); exact Or.inr (Or.inr ((by omega)))) (fun i h => h.elim))
set_option maxRecDepth 100000 in
set_option maxHeartbeats 4000000 in
theorem wq_pg_isFaint (n : Nat) (hn : 4294967297 < n) (x1 : Int32) (σ : wt_St) : wt_T (wp_pg_isFaint n x1 σ) (fun q => q.2 = σ) := by
  unfold wp_pg_isFaint
  have b1 := wt_bd n
  have b2 := wt_bd x1
  refine wt_T_bi (wq_ap_look n hn 40 x1 σ) (fun q3 h4 => ?_)
  obtain ⟨e5, e5v⟩ := h4
  have e6 := wt_ceq e5v
  have b7 := wt_bd (wt_lk 40 x1 σ)
  have b8 := wt_bd q3.1
  rw [e5]
  have b9 := wt_bd (wt_gf σ 4 7)
  refine wt_T_if (fun h10 => ?_) (fun h10 => ?_)
  · skip
    have c11 := wt_cle h10
    refine wt_T_some ?_
    exact rfl
  · skip
    have c12 := wt_ncle h10
    refine wt_T_some ?_
    exact rfl
set_option maxRecDepth 100000 in
set_option maxHeartbeats 4000000 in
theorem wq_pg_faintOn (n : Nat) (hn : 4294967297 < n) (x1 : Int32) (σ : wt_St) : wt_T (wp_pg_faintOn n x1 σ) (fun q => q.2 = σ) := by
  unfold wp_pg_faintOn
  have k6 : (0 : Int32).toInt = 0 := by decide
  refine wt_T_it (fun s : Int32 × Int32 × wt_St => s.2.2 = σ ∧ 0 ≤ (s.2.1).toInt) (fun s : Int32 × Int32 × wt_St => ((312 : Int32).toInt - s.2.1.toInt + 0).toNat) (fun K1 s2 I3 hK1 => ?_) _ _ ?_ ?_
  · skip
    obtain ⟨l4, l5⟩ := I3
    unfold wp_pg_faintOn_B4
    rw [l4]
    have k7 : (312 : Int32).toInt = 312 := by decide
    have b8 := wt_bd s2.2.1
    refine wt_T_if (fun h9 => ?_) (fun h9 => ?_)
    · skip
      have c10 := wt_cle h9
      refine wt_T_some ?_
      exact rfl
    · skip
      have c11 := wt_ncle h9
      have b12 := wt_bd n
      refine wt_T_bi (wq_ap_look n hn 41 s2.2.1 σ) (fun q13 h14 => ?_)
      obtain ⟨e15, e15v⟩ := h14
      have e16 := wt_ceq e15v
      have b17 := wt_bd (wt_lk 41 s2.2.1 σ)
      have b18 := wt_bd q13.1
      rw [e15]
      have b19 := wt_bd x1
      refine wt_T_if (fun h20 => ?_) (fun h20 => ?_)
      · skip
        have c21 := wt_ceq h20
        refine wt_T_bi (wq_pg_isFaint n hn s2.2.1 σ) (fun q22 h23 => ?_)
        have e24 := h23
        rw [e24]
        have b25 := wt_bd q22.1
        refine wt_T_if (fun h26 => ?_) (fun h26 => ?_)
        · skip
          have c27 := wt_ceq h26
          unfold wp_pg_faintOn_B39
          unfold wp_pg_faintOn_B40
          have b28 := wt_bd s2.1
          obtain ⟨j29, j29a, j29b⟩ := wt_addI s2.1 (0 : Int32)
          have k30 : (1 : Int32).toInt = 1 := by decide
          obtain ⟨j31, j31a, j31b⟩ := wt_addI s2.2.1 (1 : Int32)
          refine hK1 _ ⟨rfl, (by (try dsimp only); omega)⟩ ?_
          (try dsimp only); omega
        · skip
          have c32 := wt_nceq h26
          unfold wp_pg_faintOn_B40
          have b33 := wt_bd s2.1
          have k34 : (1 : Int32).toInt = 1 := by decide
          obtain ⟨j35, j35a, j35b⟩ := wt_addI s2.1 (1 : Int32)
          obtain ⟨j36, j36a, j36b⟩ := wt_addI s2.2.1 (1 : Int32)
          refine hK1 _ ⟨rfl, (by (try dsimp only); omega)⟩ ?_
          (try dsimp only); omega
      · skip
        have c37 := wt_nceq h20
        unfold wp_pg_faintOn_B39
        unfold wp_pg_faintOn_B40
        have b38 := wt_bd s2.1
        obtain ⟨j39, j39a, j39b⟩ := wt_addI s2.1 (0 : Int32)
        have k40 : (1 : Int32).toInt = 1 := by decide
        obtain ⟨j41, j41a, j41b⟩ := wt_addI s2.2.1 (1 : Int32)
        refine hK1 _ ⟨rfl, (by (try dsimp only); omega)⟩ ?_
        (try dsimp only); omega
  · skip
    have k42 : (312 : Int32).toInt = 312 := by decide
    exact ⟨rfl, (by (try dsimp only); omega)⟩
  · skip
    have k43 : (312 : Int32).toInt = 312 := by decide
    (try dsimp only); omega
set_option maxRecDepth 100000 in
set_option maxHeartbeats 4000000 in
theorem wq_pg_leastLeftOn (n : Nat) (hn : 4294967297 < n) (x1 : Int32) (σ : wt_St) : wt_T (wp_pg_leastLeftOn n x1 σ) (fun q => q.2 = σ) := by
  unfold wp_pg_leastLeftOn
  have k6 : (1000000 : Int32).toInt = 1000000 := by decide
  have k7 : (0 : Int32).toInt = 0 := by decide
  refine wt_T_it (fun s : Int32 × Int32 × wt_St => s.2.2 = σ ∧ 0 ≤ (s.2.1).toInt) (fun s : Int32 × Int32 × wt_St => ((312 : Int32).toInt - s.2.1.toInt + 0).toNat) (fun K1 s2 I3 hK1 => ?_) _ _ ?_ ?_
  · skip
    obtain ⟨l4, l5⟩ := I3
    unfold wp_pg_leastLeftOn_B5
    rw [l4]
    have k8 : (312 : Int32).toInt = 312 := by decide
    have b9 := wt_bd s2.2.1
    refine wt_T_if (fun h10 => ?_) (fun h10 => ?_)
    · skip
      have c11 := wt_cle h10
      refine wt_T_some ?_
      exact rfl
    · skip
      have c12 := wt_ncle h10
      have b13 := wt_bd n
      refine wt_T_bi (wq_ap_look n hn 41 s2.2.1 σ) (fun q14 h15 => ?_)
      obtain ⟨e16, e16v⟩ := h15
      have e17 := wt_ceq e16v
      have b18 := wt_bd (wt_lk 41 s2.2.1 σ)
      have b19 := wt_bd q14.1
      rw [e16]
      have b20 := wt_bd x1
      refine wt_T_if (fun h21 => ?_) (fun h21 => ?_)
      · skip
        have c22 := wt_ceq h21
        refine wt_T_bi (wq_ap_look n hn 40 s2.2.1 σ) (fun q23 h24 => ?_)
        obtain ⟨e25, e25v⟩ := h24
        have e26 := wt_ceq e25v
        have b27 := wt_bd (wt_lk 40 s2.2.1 σ)
        have b28 := wt_bd q23.1
        rw [e25]
        unfold wp_pg_leastLeftOn_B43
        have b29 := wt_bd s2.1
        have b30 := wt_bd (if q23.1 < s2.1 then q23.1 else s2.1)
        have i31 : ((q23.1 < s2.1) ∧ (if q23.1 < s2.1 then q23.1 else s2.1) = q23.1) ∨ (¬ (q23.1 < s2.1) ∧ (if q23.1 < s2.1 then q23.1 else s2.1) = s2.1) := by
          by_cases h : q23.1 < s2.1
          · exact Or.inl ⟨h, if_pos h⟩
          · exact Or.inr ⟨h, if_neg h⟩
        have i32 : (q23.1.toInt < s2.1.toInt ∧ (if q23.1 < s2.1 then q23.1 else s2.1).toInt = q23.1.toInt) ∨ (s2.1.toInt ≤ q23.1.toInt ∧ (if q23.1 < s2.1 then q23.1 else s2.1).toInt = s2.1.toInt) := i31.elim (fun h => Or.inl ⟨(wt_clt h.1), wt_ceq h.2⟩) (fun h => Or.inr ⟨(wt_ncl h.1), wt_ceq h.2⟩)
        have k33 : (1 : Int32).toInt = 1 := by decide
        obtain ⟨j34, j34a, j34b⟩ := wt_addI s2.2.1 (1 : Int32)
        refine hK1 _ ⟨rfl, (by (try dsimp only); omega)⟩ ?_
        (try dsimp only); omega
      · skip
        have c35 := wt_nceq h21
        unfold wp_pg_leastLeftOn_B43
        have b36 := wt_bd s2.1
        have k37 : (1 : Int32).toInt = 1 := by decide
        obtain ⟨j38, j38a, j38b⟩ := wt_addI s2.2.1 (1 : Int32)
        refine hK1 _ ⟨rfl, (by (try dsimp only); omega)⟩ ?_
        (try dsimp only); omega
  · skip
    have k39 : (312 : Int32).toInt = 312 := by decide
    exact ⟨rfl, (by (try dsimp only); omega)⟩
  · skip
    have k40 : (312 : Int32).toInt = 312 := by decide
    (try dsimp only); omega
set_option maxRecDepth 100000 in
set_option maxHeartbeats 4000000 in
theorem wq_pg_readLetter (n : Nat) (hn : 4294967297 < n) (x1 : Int32) (x2 : Int32) (x3 : Int32) (σ : wt_St) : wt_T (wp_pg_readLetter n x1 x2 x3 σ) (fun q => q.2 = σ) := by
  unfold wp_pg_readLetter
  have b1 := wt_bd n
  have b2 := wt_bd x2
  refine wt_T_bi (wq_ap_look n hn 10 x2 σ) (fun q3 h4 => ?_)
  obtain ⟨e5, e5v⟩ := h4
  have e6 := wt_ceq e5v
  have b7 := wt_bd (wt_lk 10 x2 σ)
  have b8 := wt_bd q3.1
  rw [e5]
  have k14 : (0 : Int32).toInt = 0 := by decide
  refine wt_T_it (fun s : Int32 × wt_St => s.2 = σ ∧ 0 ≤ (s.1).toInt) (fun s : Int32 × wt_St => ((wt_lk 5 x2 s.2).toInt - s.1.toInt + 0).toNat) (fun K9 s10 I11 hK9 => ?_) _ _ ?_ ?_
  · skip
    obtain ⟨l12, l13⟩ := I11
    unfold wp_pg_readLetter_B16
    rw [l12]
    have b15 := wt_bd (wt_lk 5 x2 σ)
    have b16 := wt_bd s10.1
    refine wt_T_bi (wq_sk_pieces n hn x2 σ) (fun q17 h18 => ?_)
    obtain ⟨e19, e19v⟩ := h18
    have e20 := wt_ceq e19v
    have b21 := wt_bd q17.1
    rw [e19]
    refine wt_T_if (fun h22 => ?_) (fun h22 => ?_)
    · skip
      have c23 := wt_cle h22
      refine wt_T_some ?_
      exact rfl
    · skip
      have c24 := wt_ncle h22
      have k25 : (12 : Int32).toInt = 12 := by decide
      obtain ⟨j26, j26a, j26b⟩ := wt_mulI x2 (12 : Int32)
      obtain ⟨j27, j27a, j27b⟩ := wt_addI (x2 * (12 : Int32)) s10.1
      refine wt_T_bi (wq_ap_look n hn 41 ((x2 * (12 : Int32)) + s10.1) σ) (fun q28 h29 => ?_)
      obtain ⟨e30, e30v⟩ := h29
      have e31 := wt_ceq e30v
      have b32 := wt_bd (wt_lk 41 ((x2 * (12 : Int32)) + s10.1) σ)
      have b33 := wt_bd q28.1
      rw [e30]
      have b34 := wt_bd x1
      refine wt_T_if (fun h35 => ?_) (fun h35 => ?_)
      · skip
        have c36 := wt_ceq h35
        refine wt_T_bi (wq_ap_look n hn 42 ((x2 * (12 : Int32)) + s10.1) σ) (fun q37 h38 => ?_)
        obtain ⟨e39, e39v⟩ := h38
        have e40 := wt_ceq e39v
        have b41 := wt_bd (wt_lk 42 ((x2 * (12 : Int32)) + s10.1) σ)
        have b42 := wt_bd q37.1
        rw [e39]
        have b43 := wt_bd x3
        refine wt_T_if (fun h44 => ?_) (fun h44 => ?_)
        · skip
          have c45 := wt_ceq h44
          refine wt_T_bi (wq_pg_isFaint n hn ((x2 * (12 : Int32)) + s10.1) σ) (fun q46 h47 => ?_)
          have e48 := h47
          rw [e48]
          have b49 := wt_bd q46.1
          refine wt_T_if (fun h50 => ?_) (fun h50 => ?_)
          · skip
            have c51 := wt_ceq h50
            refine wt_T_some ?_
            exact rfl
          · skip
            have c52 := wt_nceq h50
            have k53 : (-1 : Int32).toInt = -1 := by decide
            refine wt_T_if (fun h54 => ?_) (fun h54 => ?_)
            · skip
              have c55 := wt_ceq h54
              refine wt_T_some ?_
              exact rfl
            · skip
              have c56 := wt_nceq h54
              refine wt_T_some ?_
              exact rfl
        · skip
          have c57 := wt_nceq h44
          unfold wp_pg_readLetter_B92
          have k58 : (1 : Int32).toInt = 1 := by decide
          obtain ⟨j59, j59a, j59b⟩ := wt_addI s10.1 (1 : Int32)
          refine hK9 _ ⟨rfl, (by (try dsimp only); omega)⟩ ?_
          (try dsimp only); omega
      · skip
        have c60 := wt_nceq h35
        unfold wp_pg_readLetter_B92
        have k61 : (1 : Int32).toInt = 1 := by decide
        obtain ⟨j62, j62a, j62b⟩ := wt_addI s10.1 (1 : Int32)
        refine hK9 _ ⟨rfl, (by (try dsimp only); omega)⟩ ?_
        (try dsimp only); omega
  · skip
    have b63 := wt_bd (wt_lk 5 x2 σ)
    exact ⟨rfl, (by (try dsimp only); omega)⟩
  · skip
    have b64 := wt_bd (wt_lk 5 x2 σ)
    (try dsimp only); omega
set_option maxRecDepth 100000 in
set_option maxHeartbeats 4000000 in
theorem wq_tg_isSpelled (n : Nat) (hn : 4294967297 < n) (t0 : Nat) (a2 : Nat) (x1 : Int32) (x3 : Int32) (σ : wt_St) : wt_T (wp_tg_isSpelled n t0 a2 x1 x3 σ) (fun q => q.2 = σ) := by
  unfold wp_tg_isSpelled
  have k6 : (0 : Int32).toInt = 0 := by decide
  refine wt_T_it (fun s : Int32 × wt_St => s.2 = σ ∧ 0 ≤ (s.1).toInt) (fun s : Int32 × wt_St => (x3.toInt - s.1.toInt + 0).toNat) (fun K1 s2 I3 hK1 => ?_) _ _ ?_ ?_
  · skip
    obtain ⟨l4, l5⟩ := I3
    unfold wp_tg_isSpelled_B3
    rw [l4]
    have b7 := wt_bd x3
    have b8 := wt_bd s2.1
    refine wt_T_if (fun h9 => ?_) (fun h9 => ?_)
    · skip
      have c10 := wt_cle h9
      refine wt_T_some ?_
      exact rfl
    · skip
      have c11 := wt_ncle h9
      have b12 := wt_bd n
      have b13 := wt_bd x1
      refine wt_T_bi (wq_tg_letterAt n hn t0 x1 s2.1 σ) (fun q14 h15 => ?_)
      have e16 := h15
      rw [e16]
      refine wt_T_bi (wq_ap_look n hn a2 s2.1 σ) (fun q17 h18 => ?_)
      obtain ⟨e19, e19v⟩ := h18
      have e20 := wt_ceq e19v
      have b21 := wt_bd (wt_lk a2 s2.1 σ)
      have b22 := wt_bd q17.1
      rw [e19]
      have b23 := wt_bd q14.1
      refine wt_T_if (fun h24 => ?_) (fun h24 => ?_)
      · skip
        have c25 := wt_ceq h24
        have k26 : (1 : Int32).toInt = 1 := by decide
        obtain ⟨j27, j27a, j27b⟩ := wt_addI s2.1 (1 : Int32)
        refine hK1 _ ⟨rfl, (by (try dsimp only); omega)⟩ ?_
        (try dsimp only); omega
      · skip
        have c28 := wt_nceq h24
        refine wt_T_some ?_
        exact rfl
  · skip
    have b29 := wt_bd x3
    exact ⟨rfl, (by (try dsimp only); omega)⟩
  · skip
    have b30 := wt_bd x3
    (try dsimp only); omega
set_option maxRecDepth 100000 in
set_option maxHeartbeats 4000000 in
theorem wq_tg_find (n : Nat) (hn : 4294967297 < n) (t0 : Nat) (a1 : Nat) (x2 : Int32) (σ : wt_St) : wt_T (wp_tg_find n t0 a1 x2 σ) (fun q => q.2 = σ) := by
  unfold wp_tg_find
  have k6 : (0 : Int32).toInt = 0 := by decide
  refine wt_T_it (fun s : Int32 × wt_St => s.2 = σ ∧ 0 ≤ (s.1).toInt) (fun s : Int32 × wt_St => ((wt_gf s.2 t0 6).toInt - s.1.toInt + 0).toNat) (fun K1 s2 I3 hK1 => ?_) _ _ ?_ ?_
  · skip
    obtain ⟨l4, l5⟩ := I3
    unfold wp_tg_find_B2
    rw [l4]
    have b7 := wt_bd (wt_gf σ t0 6)
    have b8 := wt_bd s2.1
    refine wt_T_if (fun h9 => ?_) (fun h9 => ?_)
    · skip
      have c10 := wt_cle h9
      refine wt_T_some ?_
      exact rfl
    · skip
      have c11 := wt_ncle h9
      have b12 := wt_bd n
      refine wt_T_bi (wq_ap_look n hn (t0 + 2) s2.1 σ) (fun q13 h14 => ?_)
      obtain ⟨e15, e15v⟩ := h14
      have e16 := wt_ceq e15v
      have b17 := wt_bd (wt_lk (t0 + 2) s2.1 σ)
      have b18 := wt_bd q13.1
      rw [e15]
      have b19 := wt_bd x2
      refine wt_T_if (fun h20 => ?_) (fun h20 => ?_)
      · skip
        have c21 := wt_ceq h20
        refine wt_T_bi (wq_tg_isSpelled n hn t0 a1 s2.1 x2 σ) (fun q22 h23 => ?_)
        have e24 := h23
        rw [e24]
        have b25 := wt_bd q22.1
        refine wt_T_if (fun h26 => ?_) (fun h26 => ?_)
        · skip
          have c27 := wt_ceq h26
          unfold wp_tg_find_B34
          have k28 : (1 : Int32).toInt = 1 := by decide
          obtain ⟨j29, j29a, j29b⟩ := wt_addI s2.1 (1 : Int32)
          refine hK1 _ ⟨rfl, (by (try dsimp only); omega)⟩ ?_
          (try dsimp only); omega
        · skip
          have c30 := wt_nceq h26
          refine wt_T_some ?_
          exact rfl
      · skip
        have c31 := wt_nceq h20
        unfold wp_tg_find_B34
        have k32 : (1 : Int32).toInt = 1 := by decide
        obtain ⟨j33, j33a, j33b⟩ := wt_addI s2.1 (1 : Int32)
        refine hK1 _ ⟨rfl, (by (try dsimp only); omega)⟩ ?_
        (try dsimp only); omega
  · skip
    have b34 := wt_bd (wt_gf σ t0 6)
    exact ⟨rfl, (by (try dsimp only); omega)⟩
  · skip
    have b35 := wt_bd (wt_gf σ t0 6)
    (try dsimp only); omega
set_option maxRecDepth 100000 in
set_option maxHeartbeats 4000000 in
theorem wq_pg_readAs (n : Nat) (hn : 4294967297 < n) (x1 : Int32) (x2 : Int32) (σ : wt_St) : wt_T (wp_pg_readAs n x1 x2 σ) (fun q => wt_fr (fun i k => False) (fun i => i = 79 ∨ i = 80) σ q.2) := by
  unfold wp_pg_readAs
  have b1 := wt_bd n
  have b2 := wt_bd x1
  refine wt_T_bi (wq_ap_look n hn 43 x1 σ) (fun q3 h4 => ?_)
  obtain ⟨e5, e5v⟩ := h4
  have e6 := wt_ceq e5v
  have b7 := wt_bd (wt_lk 43 x1 σ)
  have b8 := wt_bd q3.1
  rw [e5]
  have k9 : (0 : Int32).toInt = 0 := by decide
  refine wt_T_bi (wq_ap_fillRow n hn 79 (0 : Int32) σ) (fun q10 h11 => ?_)
  have f12 := h11
  refine wt_T_it (fun s : Int32 × wt_St => wt_fr (fun i k => False) (fun i => i = 79) q10 s.2 ∧ 0 ≤ (s.1).toInt) (fun s : Int32 × wt_St => (x2.toInt - s.1.toInt + 0).toNat) (fun K13 s14 I15 hK13 => ?_) _ _ ?_ ?_
  · skip
    obtain ⟨l16, l17⟩ := I15
    unfold wp_pg_readAs_B23
    have b18 := wt_bd x2
    have b19 := wt_bd s14.1
    refine wt_T_if (fun h20 => ?_) (fun h20 => ?_)
    · skip
      have c21 := wt_cle h20
      refine wt_T_bi (wq_tx_wordAt n hn q3.1 x2 s14.2) (fun q22 h23 => ?_)
      have e24 := h23
      rw [e24]
      have b25 := wt_bd q22.1
      refine wt_T_bi (wq_ap_look n hn 22 q22.1 s14.2) (fun q26 h27 => ?_)
      obtain ⟨e28, e28v⟩ := h27
      have e29 := wt_ceq e28v
      have b30 := wt_bd (wt_lk 22 q22.1 s14.2)
      have t31 : (wt_lk 22 q22.1 s14.2).toInt = (wt_lk 22 q22.1 q10).toInt := congrArg Int32.toInt (wt_lk_fr (l16.2 22 (by (try dsimp only); omega)))
      have b32 := wt_bd (wt_lk 22 q22.1 q10)
      have t33 : (wt_lk 22 q22.1 q10).toInt = (wt_lk 22 q22.1 σ).toInt := congrArg Int32.toInt (wt_lk_fr (f12.2 22 (by (try dsimp only); omega)))
      have b34 := wt_bd (wt_lk 22 q22.1 σ)
      have b35 := wt_bd q26.1
      rw [e28]
      refine wt_T_it (fun s : Int32 × wt_St => wt_fr (fun i k => False) (fun i => i = 80 ∨ i = 79) s14.2 s.2 ∧ 0 ≤ (s.1).toInt) (fun s : Int32 × wt_St => (q26.1.toInt - s.1.toInt + 0).toNat) (fun K36 s37 I38 hK36 => ?_) _ _ ?_ ?_
      · skip
        obtain ⟨l39, l40⟩ := I38
        unfold wp_pg_readAs_B84
        have b41 := wt_bd s37.1
        refine wt_T_if (fun h42 => ?_) (fun h42 => ?_)
        · skip
          have c43 := wt_cle h42
          refine wt_T_bi (wq_tg_find n hn 20 80 q26.1 s37.2) (fun q44 h45 => ?_)
          have e46 := h45
          rw [e46]
          refine wt_T_some ?_
          exact (wt_fr.tr (wt_fr.tr (wt_fr.tr wt_fr.rf f12 (fun i k h => h.elim) (fun i h => by (try dsimp only at h); exact Or.inl (by omega))) l16 (fun i k h => h.elim) (fun i h => by (try dsimp only at h); exact Or.inl (by omega))) l39 (fun i k h => h.elim) (fun i h => by (try dsimp only at h); rcases h with h | h; exact Or.inr ((by omega)); exact Or.inl (by omega)))
        · skip
          have c47 := wt_ncle h42
          refine wt_T_bi (wq_tg_letterAt n hn 20 q22.1 s37.1 s37.2) (fun q48 h49 => ?_)
          have e50 := h49
          rw [e50]
          have b51 := wt_bd q48.1
          refine wt_T_bi (wq_ap_look n hn 79 q48.1 s37.2) (fun q52 h53 => ?_)
          obtain ⟨e54, e54v⟩ := h53
          have e55 := wt_ceq e54v
          have b56 := wt_bd (wt_lk 79 q48.1 s37.2)
          have b57 := wt_bd q52.1
          rw [e54]
          refine wt_T_bi (wq_pg_readLetter n hn x1 q48.1 q52.1 s37.2) (fun q58 h59 => ?_)
          have e60 := h59
          rw [e60]
          have b61 := wt_bd q58.1
          refine wt_T_bi (wq_ap_put n hn 80 s37.1 q58.1 s37.2) (fun q62 h63 => ?_)
          have f64 := h63
          have k65 : (1 : Int32).toInt = 1 := by decide
          obtain ⟨j66, j66a, j66b⟩ := wt_addI q52.1 (1 : Int32)
          refine wt_T_bi (wq_ap_put n hn 79 q48.1 (q52.1 + (1 : Int32)) q62) (fun q67 h68 => ?_)
          have f69 := h68
          obtain ⟨j70, j70a, j70b⟩ := wt_addI s37.1 (1 : Int32)
          refine hK36 _ ⟨(wt_fr.tr (wt_fr.tr (wt_fr.tr wt_fr.rf l39 (fun i k h => h.elim) (fun i h => by (try dsimp only at h); rcases h with h | h; exact Or.inl (by omega); exact Or.inr ((by omega)))) f64 (fun i k h => h.elim) (fun i h => by (try dsimp only at h); exact Or.inl (by omega))) f69 (fun i k h => h.elim) (fun i h => by (try dsimp only at h); exact Or.inr ((by omega)))), (by (try dsimp only); omega)⟩ ?_
          (try dsimp only); omega
      · skip
        exact ⟨wt_fr.rf, (by (try dsimp only); omega)⟩
      · skip
        (try dsimp only); omega
    · skip
      have c71 := wt_ncle h20
      refine wt_T_bi (wq_tx_wordAt n hn q3.1 s14.1 s14.2) (fun q72 h73 => ?_)
      have e74 := h73
      rw [e74]
      have b75 := wt_bd q72.1
      refine wt_T_bi (wq_tg_countInto n hn 20 79 q72.1 s14.2) (fun q76 h77 => ?_)
      have f78 := h77
      have k79 : (1 : Int32).toInt = 1 := by decide
      obtain ⟨j80, j80a, j80b⟩ := wt_addI s14.1 (1 : Int32)
      refine hK13 _ ⟨(wt_fr.tr (wt_fr.tr wt_fr.rf l16 (fun i k h => h.elim) (fun i h => by (try dsimp only at h); exact (by omega))) f78 (fun i k h => h.elim) (fun i h => by (try dsimp only at h); exact (by omega))), (by (try dsimp only); omega)⟩ ?_
      (try dsimp only); omega
  · skip
    have b81 := wt_bd x2
    exact ⟨wt_fr.rf, (by (try dsimp only); omega)⟩
  · skip
    have b82 := wt_bd x2
    (try dsimp only); omega
set_option maxRecDepth 100000 in
set_option maxHeartbeats 4000000 in
theorem wq_pg_misreadOn (n : Nat) (hn : 4294967297 < n) (x1 : Int32) (σ : wt_St) : wt_T (wp_pg_misreadOn n x1 σ) (fun q => wt_fr (fun i k => False) (fun i => i = 79 ∨ i = 80) σ q.2) := by
  unfold wp_pg_misreadOn
  have b1 := wt_bd n
  have b2 := wt_bd x1
  refine wt_T_bi (wq_ap_look n hn 43 x1 σ) (fun q3 h4 => ?_)
  obtain ⟨e5, e5v⟩ := h4
  have e6 := wt_ceq e5v
  have b7 := wt_bd (wt_lk 43 x1 σ)
  have b8 := wt_bd q3.1
  rw [e5]
  have k14 : (0 : Int32).toInt = 0 := by decide
  refine wt_T_it (fun s : Int32 × Int32 × wt_St => wt_fr (fun i k => False) (fun i => i = 79 ∨ i = 80) σ s.2.2 ∧ 0 ≤ (s.2.1).toInt) (fun s : Int32 × Int32 × wt_St => ((wt_lk 36 q3.1 s.2.2).toInt - s.2.1.toInt + 0).toNat) (fun K9 s10 I11 hK9 => ?_) _ _ ?_ ?_
  · skip
    obtain ⟨l12, l13⟩ := I11
    unfold wp_pg_misreadOn_B17
    have b15 := wt_bd (wt_lk 36 q3.1 s10.2.2)
    have t16 : (wt_lk 36 q3.1 s10.2.2).toInt = (wt_lk 36 q3.1 σ).toInt := congrArg Int32.toInt (wt_lk_fr (l12.2 36 (by (try dsimp only); omega)))
    have b17 := wt_bd (wt_lk 36 q3.1 σ)
    have b18 := wt_bd s10.2.1
    refine wt_T_bi (wq_tx_lengthOf n hn q3.1 s10.2.2) (fun q19 h20 => ?_)
    obtain ⟨e21, e21v⟩ := h20
    have e22 := wt_ceq e21v
    have b23 := wt_bd q19.1
    rw [e21]
    refine wt_T_if (fun h24 => ?_) (fun h24 => ?_)
    · skip
      have c25 := wt_cle h24
      refine wt_T_some ?_
      exact (wt_fr.tr wt_fr.rf l12 (fun i k h => h.elim) (fun i h => by (try dsimp only at h); rcases h with h | h; exact Or.inl (by omega); exact Or.inr ((by omega))))
    · skip
      have c26 := wt_ncle h24
      refine wt_T_bi (wq_pg_readAs n hn x1 s10.2.1 s10.2.2) (fun q27 h28 => ?_)
      have f29 := h28
      refine wt_T_bi (wq_tx_wordAt n hn q3.1 s10.2.1 q27.2) (fun q30 h31 => ?_)
      have e32 := h31
      rw [e32]
      have b33 := wt_bd q27.1
      have b34 := wt_bd q30.1
      refine wt_T_if (fun h35 => ?_) (fun h35 => ?_)
      · skip
        have c36 := wt_ceq h35
        unfold wp_pg_misreadOn_B56
        have b37 := wt_bd s10.1
        obtain ⟨j38, j38a, j38b⟩ := wt_addI s10.1 (0 : Int32)
        have k39 : (1 : Int32).toInt = 1 := by decide
        obtain ⟨j40, j40a, j40b⟩ := wt_addI s10.2.1 (1 : Int32)
        have b41 := wt_bd (wt_lk 36 q3.1 q27.2)
        have t42 : (wt_lk 36 q3.1 q27.2).toInt = (wt_lk 36 q3.1 s10.2.2).toInt := congrArg Int32.toInt (wt_lk_fr (f29.2 36 (by (try dsimp only); omega)))
        refine hK9 _ ⟨(wt_fr.tr (wt_fr.tr wt_fr.rf l12 (fun i k h => h.elim) (fun i h => by (try dsimp only at h); rcases h with h | h; exact Or.inl (by omega); exact Or.inr ((by omega)))) f29 (fun i k h => h.elim) (fun i h => by (try dsimp only at h); rcases h with h | h; exact Or.inl (by omega); exact Or.inr ((by omega)))), (by (try dsimp only); omega)⟩ ?_
        (try dsimp only); omega
      · skip
        have c43 := wt_nceq h35
        unfold wp_pg_misreadOn_B56
        have b44 := wt_bd s10.1
        have k45 : (1 : Int32).toInt = 1 := by decide
        obtain ⟨j46, j46a, j46b⟩ := wt_addI s10.1 (1 : Int32)
        obtain ⟨j47, j47a, j47b⟩ := wt_addI s10.2.1 (1 : Int32)
        have b48 := wt_bd (wt_lk 36 q3.1 q27.2)
        have t49 : (wt_lk 36 q3.1 q27.2).toInt = (wt_lk 36 q3.1 s10.2.2).toInt := congrArg Int32.toInt (wt_lk_fr (f29.2 36 (by (try dsimp only); omega)))
        refine hK9 _ ⟨(wt_fr.tr (wt_fr.tr wt_fr.rf l12 (fun i k h => h.elim) (fun i h => by (try dsimp only at h); rcases h with h | h; exact Or.inl (by omega); exact Or.inr ((by omega)))) f29 (fun i k h => h.elim) (fun i h => by (try dsimp only at h); rcases h with h | h; exact Or.inl (by omega); exact Or.inr ((by omega)))), (by (try dsimp only); omega)⟩ ?_
        (try dsimp only); omega
  · skip
    have b50 := wt_bd (wt_lk 36 q3.1 σ)
    exact ⟨wt_fr.rf, (by (try dsimp only); omega)⟩
  · skip
    have b51 := wt_bd (wt_lk 36 q3.1 σ)
    (try dsimp only); omega
set_option maxRecDepth 100000 in
set_option maxHeartbeats 4000000 in
theorem wq_pg_press (n : Nat) (hn : 4294967297 < n) (x1 : Int32) (x2 : Int32) (σ : wt_St) : wt_T (wp_pg_press n x1 x2 σ) (fun q => wt_fr (fun i k => False) (fun i => i = 40) σ q.2) := by
  unfold wp_pg_press
  have b1 := wt_bd n
  have b2 := wt_bd x1
  refine wt_T_bi (wq_pg_leastLeftOn n hn x1 σ) (fun q3 h4 => ?_)
  have e5 := h4
  rw [e5]
  have b6 := wt_bd x2
  have b7 := wt_bd q3.1
  refine wt_T_if (fun h8 => ?_) (fun h8 => ?_)
  · skip
    have c9 := wt_cle h8
    have k15 : (0 : Int32).toInt = 0 := by decide
    refine wt_T_it (fun s : Int32 × Int32 × wt_St => wt_fr (fun i k => False) (fun i => i = 40) σ s.2.2 ∧ 0 ≤ (s.2.1).toInt) (fun s : Int32 × Int32 × wt_St => ((312 : Int32).toInt - s.2.1.toInt + 0).toNat) (fun K10 s11 I12 hK10 => ?_) _ _ ?_ ?_
    · skip
      obtain ⟨l13, l14⟩ := I12
      unfold wp_pg_press_B16
      have k16 : (312 : Int32).toInt = 312 := by decide
      have b17 := wt_bd s11.2.1
      refine wt_T_if (fun h18 => ?_) (fun h18 => ?_)
      · skip
        have c19 := wt_cle h18
        refine wt_T_some ?_
        exact (wt_fr.tr wt_fr.rf l13 (fun i k h => h.elim) (fun i h => by (try dsimp only at h); exact (by omega)))
      · skip
        have c20 := wt_ncle h18
        refine wt_T_bi (wq_ap_look n hn 41 s11.2.1 s11.2.2) (fun q21 h22 => ?_)
        obtain ⟨e23, e23v⟩ := h22
        have e24 := wt_ceq e23v
        have b25 := wt_bd (wt_lk 41 s11.2.1 s11.2.2)
        have t26 : (wt_lk 41 s11.2.1 s11.2.2).toInt = (wt_lk 41 s11.2.1 σ).toInt := congrArg Int32.toInt (wt_lk_fr (l13.2 41 (by (try dsimp only); omega)))
        have b27 := wt_bd (wt_lk 41 s11.2.1 σ)
        have b28 := wt_bd q21.1
        rw [e23]
        refine wt_T_if (fun h29 => ?_) (fun h29 => ?_)
        · skip
          have c30 := wt_ceq h29
          refine wt_T_bi (wq_ap_look n hn 40 s11.2.1 s11.2.2) (fun q31 h32 => ?_)
          obtain ⟨e33, e33v⟩ := h32
          have e34 := wt_ceq e33v
          have b35 := wt_bd (wt_lk 40 s11.2.1 s11.2.2)
          have b36 := wt_bd q31.1
          rw [e33]
          obtain ⟨j37, j37a, j37b⟩ := wt_subI q31.1 x2
          refine wt_T_bi (wq_ap_put n hn 40 s11.2.1 (q31.1 - x2) s11.2.2) (fun q38 h39 => ?_)
          have f40 := h39
          refine wt_T_if (fun h41 => ?_) (fun h41 => ?_)
          · skip
            have c42 := wt_ceq h41
            unfold wp_pg_press_B81
            unfold wp_pg_press_B83
            have b43 := wt_bd s11.1
            have k44 : (1 : Int32).toInt = 1 := by decide
            obtain ⟨j45, j45a, j45b⟩ := wt_addI s11.1 (1 : Int32)
            obtain ⟨j46, j46a, j46b⟩ := wt_addI s11.2.1 (1 : Int32)
            refine hK10 _ ⟨(wt_fr.tr (wt_fr.tr wt_fr.rf l13 (fun i k h => h.elim) (fun i h => by (try dsimp only at h); exact (by omega))) f40 (fun i k h => h.elim) (fun i h => by (try dsimp only at h); exact (by omega))), (by (try dsimp only); omega)⟩ ?_
            (try dsimp only); omega
          · skip
            have c47 := wt_nceq h41
            unfold wp_pg_press_B81
            unfold wp_pg_press_B83
            have b48 := wt_bd s11.1
            obtain ⟨j49, j49a, j49b⟩ := wt_addI s11.1 (0 : Int32)
            have k50 : (1 : Int32).toInt = 1 := by decide
            obtain ⟨j51, j51a, j51b⟩ := wt_addI s11.2.1 (1 : Int32)
            refine hK10 _ ⟨(wt_fr.tr (wt_fr.tr wt_fr.rf l13 (fun i k h => h.elim) (fun i h => by (try dsimp only at h); exact (by omega))) f40 (fun i k h => h.elim) (fun i h => by (try dsimp only at h); exact (by omega))), (by (try dsimp only); omega)⟩ ?_
            (try dsimp only); omega
        · skip
          have c52 := wt_nceq h29
          unfold wp_pg_press_B83
          have b53 := wt_bd s11.1
          have k54 : (1 : Int32).toInt = 1 := by decide
          obtain ⟨j55, j55a, j55b⟩ := wt_addI s11.2.1 (1 : Int32)
          refine hK10 _ ⟨(wt_fr.tr wt_fr.rf l13 (fun i k h => h.elim) (fun i h => by (try dsimp only at h); exact (by omega))), (by (try dsimp only); omega)⟩ ?_
          (try dsimp only); omega
    · skip
      have k56 : (312 : Int32).toInt = 312 := by decide
      exact ⟨wt_fr.rf, (by (try dsimp only); omega)⟩
    · skip
      have k57 : (312 : Int32).toInt = 312 := by decide
      (try dsimp only); omega
  · skip
    have c58 := wt_ncle h8
    refine wt_T_some ?_
    exact wt_fr.rf
set_option maxRecDepth 100000 in
set_option maxHeartbeats 4000000 in
theorem wq_ap_restore (n : Nat) (hn : 4294967297 < n) (σ : wt_St) : wt_T (wp_ap_restore n σ) (fun q => wt_fr (fun i k => (i = 39 ∧ k = 8) ∨ (i = 39 ∧ k = 9) ∨ (i = 0 ∧ k = 14)) (fun i => i = 40 ∨ i = 41 ∨ i = 42 ∨ i = 43 ∨ i = 44 ∨ i = 45 ∨ i = 46 ∨ i = 47) σ q.2) := by
  unfold wp_ap_restore
  have b1 := wt_bd (wt_gf σ 0 14)
  have k2 : (1 : Int32).toInt = 1 := by decide
  obtain ⟨j3, j3a, j3b⟩ := wt_subI (wt_gf σ 0 14) (1 : Int32)
  have k4 : (0 : Int32).toInt = 0 := by decide
  refine wt_T_if (fun h5 => ?_) (fun h5 => ?_)
  · skip
    have c6 := wt_clt h5
    refine wt_T_some ?_
    exact wt_fr.rf
  · skip
    have c7 := wt_ncl h5
    have k8 : (3 : Int32).toInt = 3 := by decide
    refine wt_T_if (fun h9 => ?_) (fun h9 => ?_)
    · skip
      have c10 := wt_clt h9
      refine wt_T_gd (wt_ix (by omega) (by omega)) ?_
      have b11 := wt_bd n
      have b12 := wt_tn ((wt_gf σ 0 14) - (1 : Int32))
      refine wt_T_bi (wq_st_become n hn 39 (49 + (9 * (Int32.toNatClampNeg ((wt_gf σ 0 14) - (1 : Int32))))) σ) (fun q13 h14 => ?_)
      have f15 := h14
      obtain ⟨σ16, eσ16⟩ : ∃ z : wt_St, z = wt_sf q13 0 14 ((wt_gf σ 0 14) - (1 : Int32)) := ⟨_, rfl⟩
      rw [← eσ16]
      have fσ16 := wt_fr_sf eσ16
      have vσ16 := wt_ceq (wt_v_sf eσ16)
      refine wt_T_some ?_
      exact (wt_fr.tr (wt_fr.tr wt_fr.rf f15 (fun i k h => by (try dsimp only at h); rcases h with h | h; exact Or.inl (by omega); exact Or.inr (Or.inl (by omega))) (fun i h => by (try dsimp only at h); rcases h with h | h | h | h | h | h | h | h; exact Or.inl (by omega); exact Or.inr (Or.inl (by omega)); exact Or.inr (Or.inr (Or.inl (by omega))); exact Or.inr (Or.inr (Or.inr (Or.inl (by omega)))); exact Or.inr (Or.inr (Or.inr (Or.inr (Or.inl (by omega))))); exact Or.inr (Or.inr (Or.inr (Or.inr (Or.inr (Or.inl (by omega)))))); exact Or.inr (Or.inr (Or.inr (Or.inr (Or.inr (Or.inr (Or.inl (by omega))))))); exact Or.inr (Or.inr (Or.inr (Or.inr (Or.inr (Or.inr (Or.inr ((by omega)))))))))) fσ16 (fun i k h => by (try dsimp only at h); exact Or.inr (Or.inr ((by omega)))) (fun i h => h.elim))
    · skip
      have c17 := wt_ncl h9
      refine wt_T_some ?_
      exact wt_fr.rf
set_option maxRecDepth 100000 in
set_option maxHeartbeats 4000000 in
theorem wq_pg_firstFree (n : Nat) (hn : 4294967297 < n) (σ : wt_St) : wt_T (wp_pg_firstFree n σ) (fun q => q.2 = σ) := by
  unfold wp_pg_firstFree
  have k6 : (0 : Int32).toInt = 0 := by decide
  refine wt_T_it (fun s : Int32 × wt_St => s.2 = σ ∧ 0 ≤ (s.1).toInt) (fun s : Int32 × wt_St => ((4 : Int32).toInt - s.1.toInt + 0).toNat) (fun K1 s2 I3 hK1 => ?_) _ _ ?_ ?_
  · skip
    obtain ⟨l4, l5⟩ := I3
    unfold wp_pg_firstFree_B2
    rw [l4]
    have k7 : (4 : Int32).toInt = 4 := by decide
    have b8 := wt_bd s2.1
    refine wt_T_if (fun h9 => ?_) (fun h9 => ?_)
    · skip
      have c10 := wt_cle h9
      refine wt_T_some ?_
      exact rfl
    · skip
      have c11 := wt_ncle h9
      have b12 := wt_bd n
      refine wt_T_bi (wq_pg_stands n hn s2.1 σ) (fun q13 h14 => ?_)
      have e15 := h14
      rw [e15]
      have b16 := wt_bd q13.1
      refine wt_T_if (fun h17 => ?_) (fun h17 => ?_)
      · skip
        have c18 := wt_ceq h17
        refine wt_T_some ?_
        exact rfl
      · skip
        have c19 := wt_nceq h17
        have k20 : (1 : Int32).toInt = 1 := by decide
        obtain ⟨j21, j21a, j21b⟩ := wt_addI s2.1 (1 : Int32)
        refine hK1 _ ⟨rfl, (by (try dsimp only); omega)⟩ ?_
        (try dsimp only); omega
  · skip
    have k22 : (4 : Int32).toInt = 4 := by decide
    exact ⟨rfl, (by (try dsimp only); omega)⟩
  · skip
    have k23 : (4 : Int32).toInt = 4 := by decide
    (try dsimp only); omega
set_option maxRecDepth 100000 in
set_option maxHeartbeats 4000000 in
theorem wq_pg_stand (n : Nat) (hn : 4294967297 < n) (x1 : Int32) (x2 : Int32) (σ : wt_St) : wt_T (wp_pg_stand n x1 x2 σ) (fun q => wt_fr (fun i k => False) (fun i => i = 78 ∨ i = 43 ∨ i = 41 ∨ i = 42) σ q.2) := by
  unfold wp_pg_stand
  have b1 := wt_bd n
  have b2 := wt_bd x1
  refine wt_T_bi (wq_tx_spell n hn 78 x1 σ) (fun q3 h4 => ?_)
  have f5 := h4
  have b6 := wt_bd x2
  refine wt_T_bi (wq_sk_lacking n hn 78 40 x2 q3) (fun q7 h8 => ?_)
  have e9 := h8
  rw [e9]
  have b10 := wt_bd q7.1
  have k11 : (-1 : Int32).toInt = -1 := by decide
  refine wt_T_if (fun h12 => ?_) (fun h12 => ?_)
  · skip
    have c13 := wt_ceq h12
    refine wt_T_bi (wq_pg_firstFree n hn q3) (fun q14 h15 => ?_)
    have e16 := h15
    rw [e16]
    have b17 := wt_bd q14.1
    refine wt_T_if (fun h18 => ?_) (fun h18 => ?_)
    · skip
      have c19 := wt_ceq h18
      refine wt_T_some ?_
      exact (wt_fr.tr wt_fr.rf f5 (fun i k h => h.elim) (fun i h => by (try dsimp only at h); exact Or.inl (by omega)))
    · skip
      have c20 := wt_nceq h18
      have k26 : (0 : Int32).toInt = 0 := by decide
      refine wt_T_it (fun s : Int32 × wt_St => wt_fr (fun i k => False) (fun i => i = 41 ∨ i = 42) q3 s.2 ∧ 0 ≤ (s.1).toInt) (fun s : Int32 × wt_St => ((26 : Int32).toInt - s.1.toInt + 0).toNat) (fun K21 s22 I23 hK21 => ?_) _ _ ?_ ?_
      · skip
        obtain ⟨l24, l25⟩ := I23
        unfold wp_pg_stand_B53
        have k27 : (26 : Int32).toInt = 26 := by decide
        have b28 := wt_bd s22.1
        refine wt_T_if (fun h29 => ?_) (fun h29 => ?_)
        · skip
          have c30 := wt_cle h29
          refine wt_T_bi (wq_ap_put n hn 43 q14.1 x1 s22.2) (fun q31 h32 => ?_)
          have f33 := h32
          refine wt_T_some ?_
          exact (wt_fr.tr (wt_fr.tr (wt_fr.tr wt_fr.rf f5 (fun i k h => h.elim) (fun i h => by (try dsimp only at h); exact Or.inl (by omega))) l24 (fun i k h => h.elim) (fun i h => by (try dsimp only at h); rcases h with h | h; exact Or.inr (Or.inr (Or.inl (by omega))); exact Or.inr (Or.inr (Or.inr ((by omega)))))) f33 (fun i k h => h.elim) (fun i h => by (try dsimp only at h); exact Or.inr (Or.inl (by omega))))
        · skip
          have c34 := wt_ncle h29
          refine wt_T_it (fun s : Int32 × wt_St => wt_fr (fun i k => False) (fun i => i = 41 ∨ i = 42) s22.2 s.2 ∧ 0 ≤ (s.1).toInt) (fun s : Int32 × wt_St => ((wt_ga s.2 78 (Int32.toNatClampNeg s22.1)).toInt - s.1.toInt + 0).toNat) (fun K35 s36 I37 hK35 => ?_) _ _ ?_ ?_
          · skip
            obtain ⟨l38, l39⟩ := I37
            unfold wp_pg_stand_B66
            have b40 := wt_bd (Int32ClampNeg s22.1)
            have b41 := wt_bd (wt_ga s36.2 78 (Int32ClampNeg s22.1))
            have t42 : (wt_ga s36.2 78 (Int32ClampNeg s22.1)).toInt = (wt_ga s22.2 78 (Int32ClampNeg s22.1)).toInt := congrArg Int32.toInt (l38.2 78 (by (try dsimp only); omega) (Int32ClampNeg s22.1))
            have b43 := wt_bd (wt_ga s22.2 78 (Int32ClampNeg s22.1))
            have t44 : (wt_ga s22.2 78 (Int32ClampNeg s22.1)).toInt = (wt_ga q3 78 (Int32ClampNeg s22.1)).toInt := congrArg Int32.toInt (l24.2 78 (by (try dsimp only); omega) (Int32ClampNeg s22.1))
            have b45 := wt_bd (wt_ga q3 78 (Int32ClampNeg s22.1))
            have b46 := wt_bd s36.1
            refine wt_T_gd (wt_ix (by omega) (by omega)) ?_
            have b47 := wt_tn s22.1
            have b48 := wt_bd (wt_ga s36.2 78 (Int32.toNatClampNeg s22.1))
            have t49 : (wt_ga s36.2 78 (Int32.toNatClampNeg s22.1)).toInt = (wt_ga s22.2 78 (Int32.toNatClampNeg s22.1)).toInt := congrArg Int32.toInt (l38.2 78 (by (try dsimp only); omega) (Int32.toNatClampNeg s22.1))
            have b50 := wt_bd (wt_ga s22.2 78 (Int32.toNatClampNeg s22.1))
            have t51 : (wt_ga s22.2 78 (Int32.toNatClampNeg s22.1)).toInt = (wt_ga q3 78 (Int32.toNatClampNeg s22.1)).toInt := congrArg Int32.toInt (l24.2 78 (by (try dsimp only); omega) (Int32.toNatClampNeg s22.1))
            have b52 := wt_bd (wt_ga q3 78 (Int32.toNatClampNeg s22.1))
            refine wt_T_if (fun h53 => ?_) (fun h53 => ?_)
            · skip
              have c54 := wt_cle h53
              have k55 : (1 : Int32).toInt = 1 := by decide
              obtain ⟨j56, j56a, j56b⟩ := wt_addI s22.1 (1 : Int32)
              refine hK21 _ ⟨(wt_fr.tr (wt_fr.tr wt_fr.rf l24 (fun i k h => h.elim) (fun i h => by (try dsimp only at h); rcases h with h | h; exact Or.inl (by omega); exact Or.inr ((by omega)))) l38 (fun i k h => h.elim) (fun i h => by (try dsimp only at h); rcases h with h | h; exact Or.inl (by omega); exact Or.inr ((by omega)))), (by (try dsimp only); omega)⟩ ?_
              (try dsimp only); omega
            · skip
              have c57 := wt_ncle h53
              refine wt_T_bi (wq_sk_choose n hn 40 s22.1 x2 (0 : Int32) s36.2) (fun q58 h59 => ?_)
              have e60 := h59
              rw [e60]
              have b61 := wt_bd q58.1
              refine wt_T_bi (wq_ap_put n hn 41 q58.1 q14.1 s36.2) (fun q62 h63 => ?_)
              have f64 := h63
              refine wt_T_bi (wq_ap_put n hn 42 q58.1 s36.1 q62) (fun q65 h66 => ?_)
              have f67 := h66
              have k68 : (1 : Int32).toInt = 1 := by decide
              obtain ⟨j69, j69a, j69b⟩ := wt_addI s36.1 (1 : Int32)
              have b70 := wt_bd (wt_ga q65 78 (Int32ClampNeg s22.1))
              have t71 : (wt_ga q65 78 (Int32ClampNeg s22.1)).toInt = (wt_ga q62 78 (Int32ClampNeg s22.1)).toInt := congrArg Int32.toInt (f67.2 78 (by (try dsimp only); omega) (Int32ClampNeg s22.1))
              have b72 := wt_bd (wt_ga q62 78 (Int32ClampNeg s22.1))
              have t73 : (wt_ga q62 78 (Int32ClampNeg s22.1)).toInt = (wt_ga s36.2 78 (Int32ClampNeg s22.1)).toInt := congrArg Int32.toInt (f64.2 78 (by (try dsimp only); omega) (Int32ClampNeg s22.1))
              refine hK35 _ ⟨(wt_fr.tr (wt_fr.tr (wt_fr.tr wt_fr.rf l38 (fun i k h => h.elim) (fun i h => by (try dsimp only at h); rcases h with h | h; exact Or.inl (by omega); exact Or.inr ((by omega)))) f64 (fun i k h => h.elim) (fun i h => by (try dsimp only at h); exact Or.inl (by omega))) f67 (fun i k h => h.elim) (fun i h => by (try dsimp only at h); exact Or.inr ((by omega)))), (by (try dsimp only); omega)⟩ ?_
              (try dsimp only); omega
          · skip
            have b74 := wt_bd (Int32ClampNeg s22.1)
            have b75 := wt_bd (wt_ga s22.2 78 (Int32ClampNeg s22.1))
            have t76 : (wt_ga s22.2 78 (Int32ClampNeg s22.1)).toInt = (wt_ga q3 78 (Int32ClampNeg s22.1)).toInt := congrArg Int32.toInt (l24.2 78 (by (try dsimp only); omega) (Int32ClampNeg s22.1))
            have b77 := wt_bd (wt_ga q3 78 (Int32ClampNeg s22.1))
            exact ⟨wt_fr.rf, (by (try dsimp only); omega)⟩
          · skip
            have b78 := wt_bd (Int32ClampNeg s22.1)
            have b79 := wt_bd (wt_ga s22.2 78 (Int32ClampNeg s22.1))
            have t80 : (wt_ga s22.2 78 (Int32ClampNeg s22.1)).toInt = (wt_ga q3 78 (Int32ClampNeg s22.1)).toInt := congrArg Int32.toInt (l24.2 78 (by (try dsimp only); omega) (Int32ClampNeg s22.1))
            have b81 := wt_bd (wt_ga q3 78 (Int32ClampNeg s22.1))
            (try dsimp only); omega
      · skip
        have k82 : (26 : Int32).toInt = 26 := by decide
        exact ⟨wt_fr.rf, (by (try dsimp only); omega)⟩
      · skip
        have k83 : (26 : Int32).toInt = 26 := by decide
        (try dsimp only); omega
  · skip
    have c84 := wt_nceq h12
    refine wt_T_some ?_
    exact (wt_fr.tr wt_fr.rf f5 (fun i k h => h.elim) (fun i h => by (try dsimp only at h); exact Or.inl (by omega)))
set_option maxRecDepth 100000 in
set_option maxHeartbeats 4000000 in
theorem wq_tx_close (n : Nat) (hn : 4294967297 < n) (t1 : Nat) (x2 : Int32) (σ : wt_St) : wt_T (wp_tx_close n t1 x2 σ) (fun q => wt_fr (fun i k => (i = 34 ∧ k = 4)) (fun i => i = 38 ∨ i = 36 ∨ i = 37) σ q.2) := by
  unfold wp_tx_close
  have b1 := wt_bd n
  have k2 : (0 : Int32).toInt = 0 := by decide
  refine wt_T_bi (wq_ap_fillRow n hn 38 (0 : Int32) σ) (fun q3 h4 => ?_)
  have f5 := h4
  refine wt_T_it (fun s : Int32 × wt_St => wt_fr (fun i k => False) (fun i => i = 38) q3 s.2 ∧ 0 ≤ (s.1).toInt) (fun s : Int32 × wt_St => (x2.toInt - s.1.toInt + 0).toNat) (fun K6 s7 I8 hK6 => ?_) _ _ ?_ ?_
  · skip
    obtain ⟨l9, l10⟩ := I8
    unfold wp_tx_close_B10
    have b11 := wt_bd x2
    have b12 := wt_bd s7.1
    refine wt_T_if (fun h13 => ?_) (fun h13 => ?_)
    · skip
      have c14 := wt_cle h13
      refine wt_T_it (fun s : Int32 × wt_St => wt_fr (fun i k => False) (fun i => i = 37) s7.2 s.2 ∧ 0 ≤ (s.1).toInt) (fun s : Int32 × wt_St => ((26 : Int32).toInt - s.1.toInt + 0).toNat) (fun K15 s16 I17 hK15 => ?_) _ _ ?_ ?_
      · skip
        obtain ⟨l18, l19⟩ := I17
        unfold wp_tx_close_B47
        have k20 : (26 : Int32).toInt = 26 := by decide
        have b21 := wt_bd s16.1
        refine wt_T_if (fun h22 => ?_) (fun h22 => ?_)
        · skip
          have c23 := wt_cle h22
          have b24 := wt_bd (wt_gf s16.2 34 4)
          have t25 : (wt_gf s16.2 34 4).toInt = (wt_gf s7.2 34 4).toInt := congrArg Int32.toInt (l18.1 34 4 (fun z => z))
          have b26 := wt_bd (wt_gf s7.2 34 4)
          have t27 : (wt_gf s7.2 34 4).toInt = (wt_gf q3 34 4).toInt := congrArg Int32.toInt (l9.1 34 4 (fun z => z))
          have b28 := wt_bd (wt_gf q3 34 4)
          have t29 : (wt_gf q3 34 4).toInt = (wt_gf σ 34 4).toInt := congrArg Int32.toInt (f5.1 34 4 (fun z => z))
          have b30 := wt_bd (wt_gf σ 34 4)
          refine wt_T_bi (wq_ap_put n hn 36 (wt_gf s16.2 34 4) x2 s16.2) (fun q31 h32 => ?_)
          have f33 := h32
          obtain ⟨σ34, eσ34⟩ : ∃ z : wt_St, z = wt_sf q31 34 4 ((wt_gf q31 34 4) + (1 : Int32)) := ⟨_, rfl⟩
          rw [← eσ34]
          have fσ34 := wt_fr_sf eσ34
          have vσ34 := wt_ceq (wt_v_sf eσ34)
          have b35 := wt_bd (wt_gf q31 34 4)
          have t36 : (wt_gf q31 34 4).toInt = (wt_gf s16.2 34 4).toInt := congrArg Int32.toInt (f33.1 34 4 (fun z => z))
          have k37 : (1 : Int32).toInt = 1 := by decide
          obtain ⟨j38, j38a, j38b⟩ := wt_addI (wt_gf q31 34 4) (1 : Int32)
          refine wt_T_some ?_
          exact (wt_fr.tr (wt_fr.tr (wt_fr.tr (wt_fr.tr (wt_fr.tr wt_fr.rf f5 (fun i k h => h.elim) (fun i h => by (try dsimp only at h); exact Or.inl (by omega))) l9 (fun i k h => h.elim) (fun i h => by (try dsimp only at h); exact Or.inl (by omega))) l18 (fun i k h => h.elim) (fun i h => by (try dsimp only at h); exact Or.inr (Or.inr ((by omega))))) f33 (fun i k h => h.elim) (fun i h => by (try dsimp only at h); exact Or.inr (Or.inl (by omega)))) fσ34 (fun i k h => by (try dsimp only at h); exact (by omega)) (fun i h => h.elim))
        · skip
          have c39 := wt_ncle h22
          refine wt_T_gd (wt_ix (by omega) (by omega)) ?_
          have b40 := wt_bd (wt_gf s16.2 34 4)
          have t41 : (wt_gf s16.2 34 4).toInt = (wt_gf s7.2 34 4).toInt := congrArg Int32.toInt (l18.1 34 4 (fun z => z))
          have b42 := wt_bd (wt_gf s7.2 34 4)
          have t43 : (wt_gf s7.2 34 4).toInt = (wt_gf q3 34 4).toInt := congrArg Int32.toInt (l9.1 34 4 (fun z => z))
          have b44 := wt_bd (wt_gf q3 34 4)
          have t45 : (wt_gf q3 34 4).toInt = (wt_gf σ 34 4).toInt := congrArg Int32.toInt (f5.1 34 4 (fun z => z))
          have b46 := wt_bd (wt_gf σ 34 4)
          obtain ⟨j47, j47a, j47b⟩ := wt_mulI (wt_gf s16.2 34 4) (26 : Int32)
          obtain ⟨j48, j48a, j48b⟩ := wt_addI ((wt_gf s16.2 34 4) * (26 : Int32)) s16.1
          have b49 := wt_tn s16.1
          have b50 := wt_bd (wt_ga s16.2 38 (Int32.toNatClampNeg s16.1))
          have t51 : (wt_ga s16.2 38 (Int32.toNatClampNeg s16.1)).toInt = (wt_ga s7.2 38 (Int32.toNatClampNeg s16.1)).toInt := congrArg Int32.toInt (l18.2 38 (by (try dsimp only); omega) (Int32.toNatClampNeg s16.1))
          have b52 := wt_bd (wt_ga s7.2 38 (Int32.toNatClampNeg s16.1))
          refine wt_T_bi (wq_ap_put n hn 37 (((wt_gf s16.2 34 4) * (26 : Int32)) + s16.1) (wt_ga s16.2 38 (Int32.toNatClampNeg s16.1)) s16.2) (fun q53 h54 => ?_)
          have f55 := h54
          have k56 : (1 : Int32).toInt = 1 := by decide
          obtain ⟨j57, j57a, j57b⟩ := wt_addI s16.1 (1 : Int32)
          refine hK15 _ ⟨(wt_fr.tr (wt_fr.tr wt_fr.rf l18 (fun i k h => h.elim) (fun i h => by (try dsimp only at h); exact (by omega))) f55 (fun i k h => h.elim) (fun i h => by (try dsimp only at h); exact (by omega))), (by (try dsimp only); omega)⟩ ?_
          (try dsimp only); omega
      · skip
        have k58 : (26 : Int32).toInt = 26 := by decide
        exact ⟨wt_fr.rf, (by (try dsimp only); omega)⟩
      · skip
        have k59 : (26 : Int32).toInt = 26 := by decide
        (try dsimp only); omega
    · skip
      have c60 := wt_ncle h13
      have b61 := wt_bd (wt_gf s7.2 34 4)
      have t62 : (wt_gf s7.2 34 4).toInt = (wt_gf q3 34 4).toInt := congrArg Int32.toInt (l9.1 34 4 (fun z => z))
      have b63 := wt_bd (wt_gf q3 34 4)
      have t64 : (wt_gf q3 34 4).toInt = (wt_gf σ 34 4).toInt := congrArg Int32.toInt (f5.1 34 4 (fun z => z))
      have b65 := wt_bd (wt_gf σ 34 4)
      have k66 : (12 : Int32).toInt = 12 := by decide
      obtain ⟨j67, j67a, j67b⟩ := wt_mulI (wt_gf s7.2 34 4) (12 : Int32)
      obtain ⟨j68, j68a, j68b⟩ := wt_addI ((wt_gf s7.2 34 4) * (12 : Int32)) s7.1
      refine wt_T_bi (wq_ap_look n hn 35 (((wt_gf s7.2 34 4) * (12 : Int32)) + s7.1) s7.2) (fun q69 h70 => ?_)
      obtain ⟨e71, e71v⟩ := h70
      have e72 := wt_ceq e71v
      have b73 := wt_bd (wt_lk 35 (((wt_gf s7.2 34 4) * (12 : Int32)) + s7.1) s7.2)
      have t74 : (wt_lk 35 (((wt_gf s7.2 34 4) * (12 : Int32)) + s7.1) s7.2).toInt = (wt_lk 35 (((wt_gf s7.2 34 4) * (12 : Int32)) + s7.1) q3).toInt := congrArg Int32.toInt (wt_lk_fr (l9.2 35 (by (try dsimp only); omega)))
      have b75 := wt_bd (wt_lk 35 (((wt_gf s7.2 34 4) * (12 : Int32)) + s7.1) q3)
      have t76 : (wt_lk 35 (((wt_gf s7.2 34 4) * (12 : Int32)) + s7.1) q3).toInt = (wt_lk 35 (((wt_gf s7.2 34 4) * (12 : Int32)) + s7.1) σ).toInt := congrArg Int32.toInt (wt_lk_fr (f5.2 35 (by (try dsimp only); omega)))
      have b77 := wt_bd (wt_lk 35 (((wt_gf s7.2 34 4) * (12 : Int32)) + s7.1) σ)
      have b78 := wt_bd q69.1
      rw [e71]
      refine wt_T_bi (wq_tg_countInto n hn t1 38 q69.1 s7.2) (fun q79 h80 => ?_)
      have f81 := h80
      have k82 : (1 : Int32).toInt = 1 := by decide
      obtain ⟨j83, j83a, j83b⟩ := wt_addI s7.1 (1 : Int32)
      refine hK6 _ ⟨(wt_fr.tr (wt_fr.tr wt_fr.rf l9 (fun i k h => h.elim) (fun i h => by (try dsimp only at h); exact (by omega))) f81 (fun i k h => h.elim) (fun i h => by (try dsimp only at h); exact (by omega))), (by (try dsimp only); omega)⟩ ?_
      (try dsimp only); omega
  · skip
    have b84 := wt_bd x2
    exact ⟨wt_fr.rf, (by (try dsimp only); omega)⟩
  · skip
    have b85 := wt_bd x2
    (try dsimp only); omega
set_option maxRecDepth 100000 in
set_option maxHeartbeats 4000000 in
theorem wq_tx_fill (n : Nat) (hn : 4294967297 < n) (t2 : Nat) (σ : wt_St) : wt_T (wp_tx_fill n t2 σ) (fun q => wt_fr (fun i k => (i = 1 ∧ k = 5) ∨ (i = 1 ∧ k = 4) ∨ (i = 1 ∧ k = 6) ∨ (i = 1 ∧ k = 7) ∨ (i = 34 ∧ k = 4)) (fun i => i = 3 ∨ i = 35 ∨ i = 38 ∨ i = 36 ∨ i = 37) σ q.2) := by
  unfold wp_tx_fill
  have k6 : (0 : Int32).toInt = 0 := by decide
  refine wt_T_it (fun s : Int32 × wt_St => wt_fr (fun i k => (i = 1 ∧ k = 5) ∨ (i = 1 ∧ k = 4) ∨ (i = 1 ∧ k = 6) ∨ (i = 1 ∧ k = 7)) (fun i => i = 3 ∨ i = 35) σ s.2 ∧ 0 ≤ (s.1).toInt) (fun s : Int32 × wt_St => ((12 : Int32).toInt - s.1.toInt + 1).toNat) (fun K1 s2 I3 hK1 => ?_) _ _ ?_ ?_
  · skip
    obtain ⟨l4, l5⟩ := I3
    unfold wp_tx_fill_B2
    have k7 : (12 : Int32).toInt = 12 := by decide
    have b8 := wt_bd s2.1
    refine wt_T_if (fun h9 => ?_) (fun h9 => ?_)
    · skip
      have c10 := wt_clt h9
      refine wt_T_some ?_
      exact (wt_fr.tr wt_fr.rf l4 (fun i k h => by (try dsimp only at h); rcases h with h | h | h | h; exact Or.inl (by omega); exact Or.inr (Or.inl (by omega)); exact Or.inr (Or.inr (Or.inl (by omega))); exact Or.inr (Or.inr (Or.inr (Or.inl (by omega))))) (fun i h => by (try dsimp only at h); rcases h with h | h; exact Or.inl (by omega); exact Or.inr (Or.inl (by omega))))
    · skip
      have c11 := wt_ncl h9
      have b12 := wt_bd n
      refine wt_T_bi (wq_tp_over n hn s2.2) (fun q13 h14 => ?_)
      have f15 := h14
      have b16 := wt_bd q13.1
      refine wt_T_if (fun h17 => ?_) (fun h17 => ?_)
      · skip
        have c18 := wt_ceq h17
        refine wt_T_bi (wq_tp_takeWord n hn q13.2) (fun q19 h20 => ?_)
        have f21 := h20
        have b22 := wt_bd q19.1
        refine wt_T_if (fun h23 => ?_) (fun h23 => ?_)
        · skip
          have c24 := wt_ceq h23
          refine wt_T_some ?_
          exact (wt_fr.tr (wt_fr.tr (wt_fr.tr wt_fr.rf l4 (fun i k h => by (try dsimp only at h); rcases h with h | h | h | h; exact Or.inl (by omega); exact Or.inr (Or.inl (by omega)); exact Or.inr (Or.inr (Or.inl (by omega))); exact Or.inr (Or.inr (Or.inr (Or.inl (by omega))))) (fun i h => by (try dsimp only at h); rcases h with h | h; exact Or.inl (by omega); exact Or.inr (Or.inl (by omega)))) f15 (fun i k h => by (try dsimp only at h); rcases h with h | h; exact Or.inl (by omega); exact Or.inr (Or.inl (by omega))) (fun i h => h.elim)) f21 (fun i k h => by (try dsimp only at h); rcases h with h | h | h | h; exact Or.inl (by omega); exact Or.inr (Or.inl (by omega)); exact Or.inr (Or.inr (Or.inl (by omega))); exact Or.inr (Or.inr (Or.inr (Or.inl (by omega))))) (fun i h => by (try dsimp only at h); exact Or.inl (by omega)))
        · skip
          have c25 := wt_nceq h23
          refine wt_T_bi (wq_tp_wordLength n hn q19.2) (fun q26 h27 => ?_)
          have e28 := h27
          rw [e28]
          have b29 := wt_bd q26.1
          refine wt_T_bi (wq_tg_find n hn t2 3 q26.1 q19.2) (fun q30 h31 => ?_)
          have e32 := h31
          rw [e32]
          have b33 := wt_bd q30.1
          have k34 : (-1 : Int32).toInt = -1 := by decide
          refine wt_T_if (fun h35 => ?_) (fun h35 => ?_)
          · skip
            have c36 := wt_ceq h35
            have k37 : (2 : Int32).toInt = 2 := by decide
            refine wt_T_bi (wq_tp_fail n hn (2 : Int32) q19.2) (fun q38 h39 => ?_)
            have f40 := h39
            refine wt_T_some ?_
            exact (wt_fr.tr (wt_fr.tr (wt_fr.tr (wt_fr.tr wt_fr.rf l4 (fun i k h => by (try dsimp only at h); rcases h with h | h | h | h; exact Or.inl (by omega); exact Or.inr (Or.inl (by omega)); exact Or.inr (Or.inr (Or.inl (by omega))); exact Or.inr (Or.inr (Or.inr (Or.inl (by omega))))) (fun i h => by (try dsimp only at h); rcases h with h | h; exact Or.inl (by omega); exact Or.inr (Or.inl (by omega)))) f15 (fun i k h => by (try dsimp only at h); rcases h with h | h; exact Or.inl (by omega); exact Or.inr (Or.inl (by omega))) (fun i h => h.elim)) f21 (fun i k h => by (try dsimp only at h); rcases h with h | h | h | h; exact Or.inl (by omega); exact Or.inr (Or.inl (by omega)); exact Or.inr (Or.inr (Or.inl (by omega))); exact Or.inr (Or.inr (Or.inr (Or.inl (by omega))))) (fun i h => by (try dsimp only at h); exact Or.inl (by omega))) f40 (fun i k h => by (try dsimp only at h); rcases h with h | h; exact Or.inr (Or.inr (Or.inl (by omega))); exact Or.inr (Or.inr (Or.inr (Or.inl (by omega))))) (fun i h => h.elim))
          · skip
            have c41 := wt_nceq h35
            refine wt_T_if (fun h42 => ?_) (fun h42 => ?_)
            · skip
              have c43 := wt_clt h42
              have b44 := wt_bd (wt_gf q19.2 34 4)
              have t45 : (wt_gf q19.2 34 4).toInt = (wt_gf q13.2 34 4).toInt := congrArg Int32.toInt (f21.1 34 4 (by (try dsimp only); omega))
              have b46 := wt_bd (wt_gf q13.2 34 4)
              have t47 : (wt_gf q13.2 34 4).toInt = (wt_gf s2.2 34 4).toInt := congrArg Int32.toInt (f15.1 34 4 (by (try dsimp only); omega))
              have b48 := wt_bd (wt_gf s2.2 34 4)
              have t49 : (wt_gf s2.2 34 4).toInt = (wt_gf σ 34 4).toInt := congrArg Int32.toInt (l4.1 34 4 (by (try dsimp only); omega))
              have b50 := wt_bd (wt_gf σ 34 4)
              obtain ⟨j51, j51a, j51b⟩ := wt_mulI (wt_gf q19.2 34 4) (12 : Int32)
              obtain ⟨j52, j52a, j52b⟩ := wt_addI ((wt_gf q19.2 34 4) * (12 : Int32)) s2.1
              refine wt_T_bi (wq_ap_put n hn 35 (((wt_gf q19.2 34 4) * (12 : Int32)) + s2.1) q30.1 q19.2) (fun q53 h54 => ?_)
              have f55 := h54
              have k56 : (1 : Int32).toInt = 1 := by decide
              obtain ⟨j57, j57a, j57b⟩ := wt_addI s2.1 (1 : Int32)
              refine hK1 _ ⟨(wt_fr.tr (wt_fr.tr (wt_fr.tr (wt_fr.tr wt_fr.rf l4 (fun i k h => by (try dsimp only at h); rcases h with h | h | h | h; exact Or.inl (by omega); exact Or.inr (Or.inl (by omega)); exact Or.inr (Or.inr (Or.inl (by omega))); exact Or.inr (Or.inr (Or.inr ((by omega))))) (fun i h => by (try dsimp only at h); rcases h with h | h; exact Or.inl (by omega); exact Or.inr ((by omega)))) f15 (fun i k h => by (try dsimp only at h); rcases h with h | h; exact Or.inl (by omega); exact Or.inr (Or.inl (by omega))) (fun i h => h.elim)) f21 (fun i k h => by (try dsimp only at h); rcases h with h | h | h | h; exact Or.inl (by omega); exact Or.inr (Or.inl (by omega)); exact Or.inr (Or.inr (Or.inl (by omega))); exact Or.inr (Or.inr (Or.inr ((by omega))))) (fun i h => by (try dsimp only at h); exact Or.inl (by omega))) f55 (fun i k h => h.elim) (fun i h => by (try dsimp only at h); exact Or.inr ((by omega)))), (by (try dsimp only); omega)⟩ ?_
              (try dsimp only); omega
            · skip
              have c58 := wt_ncl h42
              have k59 : (3 : Int32).toInt = 3 := by decide
              refine wt_T_bi (wq_tp_fail n hn (3 : Int32) q19.2) (fun q60 h61 => ?_)
              have f62 := h61
              refine wt_T_some ?_
              exact (wt_fr.tr (wt_fr.tr (wt_fr.tr (wt_fr.tr wt_fr.rf l4 (fun i k h => by (try dsimp only at h); rcases h with h | h | h | h; exact Or.inl (by omega); exact Or.inr (Or.inl (by omega)); exact Or.inr (Or.inr (Or.inl (by omega))); exact Or.inr (Or.inr (Or.inr (Or.inl (by omega))))) (fun i h => by (try dsimp only at h); rcases h with h | h; exact Or.inl (by omega); exact Or.inr (Or.inl (by omega)))) f15 (fun i k h => by (try dsimp only at h); rcases h with h | h; exact Or.inl (by omega); exact Or.inr (Or.inl (by omega))) (fun i h => h.elim)) f21 (fun i k h => by (try dsimp only at h); rcases h with h | h | h | h; exact Or.inl (by omega); exact Or.inr (Or.inl (by omega)); exact Or.inr (Or.inr (Or.inl (by omega))); exact Or.inr (Or.inr (Or.inr (Or.inl (by omega))))) (fun i h => by (try dsimp only at h); exact Or.inl (by omega))) f62 (fun i k h => by (try dsimp only at h); rcases h with h | h; exact Or.inr (Or.inr (Or.inl (by omega))); exact Or.inr (Or.inr (Or.inr (Or.inl (by omega))))) (fun i h => h.elim))
      · skip
        have c63 := wt_nceq h17
        refine wt_T_if (fun h64 => ?_) (fun h64 => ?_)
        · skip
          have c65 := wt_cle h64
          have k66 : (1 : Int32).toInt = 1 := by decide
          refine wt_T_bi (wq_tp_fail n hn (1 : Int32) q13.2) (fun q67 h68 => ?_)
          have f69 := h68
          refine wt_T_some ?_
          exact (wt_fr.tr (wt_fr.tr (wt_fr.tr wt_fr.rf l4 (fun i k h => by (try dsimp only at h); rcases h with h | h | h | h; exact Or.inl (by omega); exact Or.inr (Or.inl (by omega)); exact Or.inr (Or.inr (Or.inl (by omega))); exact Or.inr (Or.inr (Or.inr (Or.inl (by omega))))) (fun i h => by (try dsimp only at h); rcases h with h | h; exact Or.inl (by omega); exact Or.inr (Or.inl (by omega)))) f15 (fun i k h => by (try dsimp only at h); rcases h with h | h; exact Or.inl (by omega); exact Or.inr (Or.inl (by omega))) (fun i h => h.elim)) f69 (fun i k h => by (try dsimp only at h); rcases h with h | h; exact Or.inr (Or.inr (Or.inl (by omega))); exact Or.inr (Or.inr (Or.inr (Or.inl (by omega))))) (fun i h => h.elim))
        · skip
          have c70 := wt_ncle h64
          refine wt_T_bi (wq_tx_close n hn t2 s2.1 q13.2) (fun q71 h72 => ?_)
          have f73 := h72
          refine wt_T_some ?_
          exact (wt_fr.tr (wt_fr.tr (wt_fr.tr wt_fr.rf l4 (fun i k h => by (try dsimp only at h); rcases h with h | h | h | h; exact Or.inl (by omega); exact Or.inr (Or.inl (by omega)); exact Or.inr (Or.inr (Or.inl (by omega))); exact Or.inr (Or.inr (Or.inr (Or.inl (by omega))))) (fun i h => by (try dsimp only at h); rcases h with h | h; exact Or.inl (by omega); exact Or.inr (Or.inl (by omega)))) f15 (fun i k h => by (try dsimp only at h); rcases h with h | h; exact Or.inl (by omega); exact Or.inr (Or.inl (by omega))) (fun i h => h.elim)) f73 (fun i k h => by (try dsimp only at h); exact Or.inr (Or.inr (Or.inr (Or.inr ((by omega)))))) (fun i h => by (try dsimp only at h); rcases h with h | h | h; exact Or.inr (Or.inr (Or.inl (by omega))); exact Or.inr (Or.inr (Or.inr (Or.inl (by omega)))); exact Or.inr (Or.inr (Or.inr (Or.inr ((by omega)))))))
  · skip
    have k74 : (12 : Int32).toInt = 12 := by decide
    exact ⟨wt_fr.rf, (by (try dsimp only); omega)⟩
  · skip
    have k75 : (12 : Int32).toInt = 12 := by decide
    (try dsimp only); omega
set_option maxRecDepth 100000 in
set_option maxHeartbeats 4000000 in
theorem wq_tr_standAtOnce (n : Nat) (hn : 4294967297 < n) (x1 : Int32) (σ : wt_St) : wt_T (wp_tr_standAtOnce n x1 σ) (fun q => q.2 = σ) := by
  unfold wp_tr_standAtOnce
  have k6 : (0 : Int32).toInt = 0 := by decide
  refine wt_T_it (fun s : Int32 × wt_St => s.2 = σ ∧ 0 ≤ (s.1).toInt) (fun s : Int32 × wt_St => ((26 : Int32).toInt - s.1.toInt + 0).toNat) (fun K1 s2 I3 hK1 => ?_) _ _ ?_ ?_
  · skip
    obtain ⟨l4, l5⟩ := I3
    unfold wp_tr_standAtOnce_B2
    rw [l4]
    have k7 : (26 : Int32).toInt = 26 := by decide
    have b8 := wt_bd s2.1
    refine wt_T_if (fun h9 => ?_) (fun h9 => ?_)
    · skip
      have c10 := wt_cle h9
      refine wt_T_some ?_
      exact rfl
    · skip
      have c11 := wt_ncle h9
      refine wt_T_it (fun s : Int32 × Int32 × wt_St => s.2.2 = σ ∧ 0 ≤ (s.2.1).toInt) (fun s : Int32 × Int32 × wt_St => ((wt_gf s.2.2 34 4).toInt - s.2.1.toInt + 0).toNat) (fun K12 s13 I14 hK12 => ?_) _ _ ?_ ?_
      · skip
        obtain ⟨l15, l16⟩ := I14
        unfold wp_tr_standAtOnce_B16
        rw [l15]
        have b17 := wt_bd (wt_gf σ 34 4)
        have b18 := wt_bd s13.2.1
        refine wt_T_if (fun h19 => ?_) (fun h19 => ?_)
        · skip
          have c20 := wt_cle h19
          refine wt_T_gd (wt_ix (by omega) (by omega)) ?_
          have b21 := wt_bd s13.1
          have b22 := wt_tn s2.1
          have b23 := wt_bd (wt_ga σ 106 (Int32.toNatClampNeg s2.1))
          refine wt_T_if (fun h24 => ?_) (fun h24 => ?_)
          · skip
            have c25 := wt_cle h24
            have k26 : (1 : Int32).toInt = 1 := by decide
            obtain ⟨j27, j27a, j27b⟩ := wt_addI s2.1 (1 : Int32)
            refine hK1 _ ⟨rfl, (by (try dsimp only); omega)⟩ ?_
            (try dsimp only); omega
          · skip
            have c28 := wt_ncle h24
            refine wt_T_some ?_
            exact rfl
        · skip
          have c29 := wt_ncle h19
          have b30 := wt_bd x1
          have k31 : (31 : Int32).toInt = 31 := by decide
          have b32 := wt_bd (s13.2.1 &&& 31)
          have b33 := wt_bd (x1 >>> (s13.2.1 &&& 31))
          have k34 : (1 : Int32).toInt = 1 := by decide
          have b35 := wt_bd ((x1 >>> (s13.2.1 &&& 31)) &&& (1 : Int32))
          refine wt_T_if (fun h36 => ?_) (fun h36 => ?_)
          · skip
            have c37 := wt_ceq h36
            have b38 := wt_bd n
            refine wt_T_bi (wq_tx_needOf n hn s13.2.1 s2.1 σ) (fun q39 h40 => ?_)
            have e41 := h40
            rw [e41]
            unfold wp_tr_standAtOnce_B53
            have b42 := wt_bd s13.1
            have b43 := wt_bd q39.1
            obtain ⟨j44, j44a, j44b⟩ := wt_addI s13.1 q39.1
            obtain ⟨j45, j45a, j45b⟩ := wt_addI s13.2.1 (1 : Int32)
            refine hK12 _ ⟨rfl, (by (try dsimp only); omega)⟩ ?_
            (try dsimp only); omega
          · skip
            have c46 := wt_nceq h36
            unfold wp_tr_standAtOnce_B53
            have b47 := wt_bd s13.1
            obtain ⟨j48, j48a, j48b⟩ := wt_addI s13.1 (0 : Int32)
            obtain ⟨j49, j49a, j49b⟩ := wt_addI s13.2.1 (1 : Int32)
            refine hK12 _ ⟨rfl, (by (try dsimp only); omega)⟩ ?_
            (try dsimp only); omega
      · skip
        have b50 := wt_bd (wt_gf σ 34 4)
        exact ⟨rfl, (by (try dsimp only); omega)⟩
      · skip
        have b51 := wt_bd (wt_gf σ 34 4)
        (try dsimp only); omega
  · skip
    have k52 : (26 : Int32).toInt = 26 := by decide
    exact ⟨rfl, (by (try dsimp only); omega)⟩
  · skip
    have k53 : (26 : Int32).toInt = 26 := by decide
    (try dsimp only); omega
set_option maxRecDepth 100000 in
set_option maxHeartbeats 4000000 in
theorem wq_jl_bitCount (n : Nat) (hn : 4294967297 < n) (x0 : Int32) (σ : wt_St) : wt_T (wp_jl_bitCount n x0 σ) (fun q => q.2 = σ) := by
  unfold wp_jl_bitCount
  refine wt_T_some ?_
  exact rfl
set_option maxRecDepth 100000 in
set_option maxHeartbeats 4000000 in
theorem wq_tr_mostAtOnce (n : Nat) (hn : 4294967297 < n) (x1 : Int32) (σ : wt_St) : wt_T (wp_tr_mostAtOnce n x1 σ) (fun q => wt_fr (fun i k => False) (fun i => i = 106) σ q.2) := by
  unfold wp_tr_mostAtOnce
  have k6 : (0 : Int32).toInt = 0 := by decide
  refine wt_T_it (fun s : Int32 × wt_St => wt_fr (fun i k => False) (fun i => i = 106) σ s.2 ∧ 0 ≤ (s.1).toInt) (fun s : Int32 × wt_St => ((26 : Int32).toInt - s.1.toInt + 0).toNat) (fun K1 s2 I3 hK1 => ?_) _ _ ?_ ?_
  · skip
    obtain ⟨l4, l5⟩ := I3
    unfold wp_tr_mostAtOnce_B2
    have k7 : (26 : Int32).toInt = 26 := by decide
    have b8 := wt_bd s2.1
    refine wt_T_if (fun h9 => ?_) (fun h9 => ?_)
    · skip
      have c10 := wt_cle h9
      have k16 : (1 : Int32).toInt = 1 := by decide
      refine wt_T_it (fun s : Int32 × Int32 × wt_St => s.2.2 = s2.2 ∧ 0 ≤ (s.2.1).toInt) (fun s : Int32 × Int32 × wt_St => (((1 : Int32) <<< ((wt_gf s.2.2 34 4) &&& 31)).toInt - s.2.1.toInt + 0).toNat) (fun K11 s12 I13 hK11 => ?_) _ _ ?_ ?_
      · skip
        obtain ⟨l14, l15⟩ := I13
        unfold wp_tr_mostAtOnce_B43
        rw [l14]
        have b17 := wt_bd (wt_gf s2.2 34 4)
        have t18 : (wt_gf s2.2 34 4).toInt = (wt_gf σ 34 4).toInt := congrArg Int32.toInt (l4.1 34 4 (fun z => z))
        have b19 := wt_bd (wt_gf σ 34 4)
        have b20 := wt_bd s12.2.1
        have k21 : (31 : Int32).toInt = 31 := by decide
        have b22 := wt_bd ((wt_gf s2.2 34 4) &&& 31)
        have b23 := wt_bd ((1 : Int32) <<< ((wt_gf s2.2 34 4) &&& 31))
        refine wt_T_if (fun h24 => ?_) (fun h24 => ?_)
        · skip
          have c25 := wt_cle h24
          refine wt_T_some ?_
          exact (wt_fr.tr wt_fr.rf l4 (fun i k h => h.elim) (fun i h => by (try dsimp only at h); exact (by omega)))
        · skip
          have c26 := wt_ncle h24
          have b27 := wt_bd n
          refine wt_T_bi (wq_jl_bitCount n hn s12.2.1 s2.2) (fun q28 h29 => ?_)
          have e30 := h29
          rw [e30]
          have b31 := wt_bd s12.1
          refine wt_T_bi (wq_jl_bitCount n hn s12.1 s2.2) (fun q32 h33 => ?_)
          have e34 := h33
          rw [e34]
          have b35 := wt_bd q28.1
          have b36 := wt_bd q32.1
          refine wt_T_if (fun h37 => ?_) (fun h37 => ?_)
          · skip
            have c38 := wt_cle h37
            unfold wp_tr_mostAtOnce_B77
            obtain ⟨j39, j39a, j39b⟩ := wt_addI s12.2.1 (1 : Int32)
            refine hK11 _ ⟨rfl, (by (try dsimp only); omega)⟩ ?_
            (try dsimp only); omega
          · skip
            have c40 := wt_ncle h37
            refine wt_T_bi (wq_tr_standAtOnce n hn s12.2.1 s2.2) (fun q41 h42 => ?_)
            have e43 := h42
            rw [e43]
            have b44 := wt_bd q41.1
            refine wt_T_if (fun h45 => ?_) (fun h45 => ?_)
            · skip
              have c46 := wt_ceq h45
              unfold wp_tr_mostAtOnce_B77
              obtain ⟨j47, j47a, j47b⟩ := wt_addI s12.2.1 (1 : Int32)
              refine hK11 _ ⟨rfl, (by (try dsimp only); omega)⟩ ?_
              (try dsimp only); omega
            · skip
              have c48 := wt_nceq h45
              unfold wp_tr_mostAtOnce_B77
              obtain ⟨j49, j49a, j49b⟩ := wt_addI s12.2.1 (1 : Int32)
              refine hK11 _ ⟨rfl, (by (try dsimp only); omega)⟩ ?_
              (try dsimp only); omega
      · skip
        have b50 := wt_bd (wt_gf s2.2 34 4)
        have t51 : (wt_gf s2.2 34 4).toInt = (wt_gf σ 34 4).toInt := congrArg Int32.toInt (l4.1 34 4 (fun z => z))
        have b52 := wt_bd (wt_gf σ 34 4)
        exact ⟨rfl, (by (try dsimp only); omega)⟩
      · skip
        have b53 := wt_bd (wt_gf s2.2 34 4)
        have t54 : (wt_gf s2.2 34 4).toInt = (wt_gf σ 34 4).toInt := congrArg Int32.toInt (l4.1 34 4 (fun z => z))
        have b55 := wt_bd (wt_gf σ 34 4)
        (try dsimp only); omega
    · skip
      have c56 := wt_ncle h9
      have b57 := wt_bd n
      have b58 := wt_bd x1
      refine wt_T_bi (wq_sk_ready n hn 40 s2.1 x1 s2.2) (fun q59 h60 => ?_)
      have e61 := h60
      rw [e61]
      refine wt_T_gd (wt_ix (by omega) (by omega)) ?_
      obtain ⟨σ62, eσ62⟩ : ∃ z : wt_St, z = wt_sa s2.2 106 (Int32.toNatClampNeg s2.1) q59.1 := ⟨_, rfl⟩
      rw [← eσ62]
      have fσ62 := wt_fr_sa eσ62
      have vσ62 := wt_ceq (wt_v_sa eσ62)
      have b63 := wt_tn s2.1
      have b64 := wt_bd q59.1
      have k65 : (1 : Int32).toInt = 1 := by decide
      obtain ⟨j66, j66a, j66b⟩ := wt_addI s2.1 (1 : Int32)
      refine hK1 _ ⟨(wt_fr.tr (wt_fr.tr wt_fr.rf l4 (fun i k h => h.elim) (fun i h => by (try dsimp only at h); exact (by omega))) fσ62 (fun i k h => h.elim) (fun i h => by (try dsimp only at h); exact (by omega))), (by (try dsimp only); omega)⟩ ?_
      (try dsimp only); omega
  · skip
    have k67 : (26 : Int32).toInt = 26 := by decide
    exact ⟨wt_fr.rf, (by (try dsimp only); omega)⟩
  · skip
    have k68 : (26 : Int32).toInt = 26 := by decide
    (try dsimp only); omega
set_option maxRecDepth 100000 in
set_option maxHeartbeats 4000000 in
theorem wq_pg_standing (n : Nat) (hn : 4294967297 < n) (σ : wt_St) : wt_T (wp_pg_standing n σ) (fun q => q.2 = σ) := by
  unfold wp_pg_standing
  have k6 : (0 : Int32).toInt = 0 := by decide
  refine wt_T_it (fun s : Int32 × Int32 × wt_St => s.2.2 = σ ∧ 0 ≤ (s.2.1).toInt) (fun s : Int32 × Int32 × wt_St => ((4 : Int32).toInt - s.2.1.toInt + 0).toNat) (fun K1 s2 I3 hK1 => ?_) _ _ ?_ ?_
  · skip
    obtain ⟨l4, l5⟩ := I3
    unfold wp_pg_standing_B4
    rw [l4]
    have k7 : (4 : Int32).toInt = 4 := by decide
    have b8 := wt_bd s2.2.1
    refine wt_T_if (fun h9 => ?_) (fun h9 => ?_)
    · skip
      have c10 := wt_cle h9
      refine wt_T_some ?_
      exact rfl
    · skip
      have c11 := wt_ncle h9
      have b12 := wt_bd n
      refine wt_T_bi (wq_pg_stands n hn s2.2.1 σ) (fun q13 h14 => ?_)
      have e15 := h14
      rw [e15]
      have b16 := wt_bd q13.1
      refine wt_T_if (fun h17 => ?_) (fun h17 => ?_)
      · skip
        have c18 := wt_ceq h17
        unfold wp_pg_standing_B23
        have b19 := wt_bd s2.1
        obtain ⟨j20, j20a, j20b⟩ := wt_addI s2.1 (0 : Int32)
        have k21 : (1 : Int32).toInt = 1 := by decide
        obtain ⟨j22, j22a, j22b⟩ := wt_addI s2.2.1 (1 : Int32)
        refine hK1 _ ⟨rfl, (by (try dsimp only); omega)⟩ ?_
        (try dsimp only); omega
      · skip
        have c23 := wt_nceq h17
        unfold wp_pg_standing_B23
        have b24 := wt_bd s2.1
        have k25 : (1 : Int32).toInt = 1 := by decide
        obtain ⟨j26, j26a, j26b⟩ := wt_addI s2.1 (1 : Int32)
        obtain ⟨j27, j27a, j27b⟩ := wt_addI s2.2.1 (1 : Int32)
        refine hK1 _ ⟨rfl, (by (try dsimp only); omega)⟩ ?_
        (try dsimp only); omega
  · skip
    have k28 : (4 : Int32).toInt = 4 := by decide
    exact ⟨rfl, (by (try dsimp only); omega)⟩
  · skip
    have k29 : (4 : Int32).toInt = 4 := by decide
    (try dsimp only); omega
set_option maxRecDepth 100000 in
set_option maxHeartbeats 4000000 in
theorem wq_tg_become (n : Nat) (hn : 4294967297 < n) (t0 : Nat) (t1 : Nat) (σ : wt_St) : wt_T (wp_tg_become n t0 t1 σ) (fun q => wt_fr (fun i k => (i = t0 ∧ k = 6) ∨ (i = t0 ∧ k = 7)) (fun i => i = t0 + 1 ∨ i = t0 + 2 ∨ i = t0 + 3 ∨ i = t0 + 4 ∨ i = t0 + 5 ∨ i = t0 + 6) σ q) := by
  unfold wp_tg_become
  have b1 := wt_bd n
  refine wt_T_bi (wq_ap_copyRow n hn (t1 + 1) (t0 + 1) σ) (fun q2 h3 => ?_)
  have f4 := h3
  refine wt_T_bi (wq_ap_copyRow n hn (t1 + 2) (t0 + 2) q2) (fun q5 h6 => ?_)
  have f7 := h6
  refine wt_T_bi (wq_ap_copyRow n hn (t1 + 3) (t0 + 3) q5) (fun q8 h9 => ?_)
  have f10 := h9
  refine wt_T_bi (wq_ap_copyRow n hn (t1 + 4) (t0 + 4) q8) (fun q11 h12 => ?_)
  have f13 := h12
  refine wt_T_bi (wq_ap_copyRow n hn (t1 + 5) (t0 + 5) q11) (fun q14 h15 => ?_)
  have f16 := h15
  refine wt_T_bi (wq_ap_copyRow n hn (t1 + 6) (t0 + 6) q14) (fun q17 h18 => ?_)
  have f19 := h18
  obtain ⟨σ20, eσ20⟩ : ∃ z : wt_St, z = wt_sf q17 t0 6 (wt_gf q17 t1 6) := ⟨_, rfl⟩
  rw [← eσ20]
  have fσ20 := wt_fr_sf eσ20
  have vσ20 := wt_ceq (wt_v_sf eσ20)
  have b21 := wt_bd (wt_gf q17 t1 6)
  have t22 : (wt_gf q17 t1 6).toInt = (wt_gf q14 t1 6).toInt := congrArg Int32.toInt (f19.1 t1 6 (fun z => z))
  have b23 := wt_bd (wt_gf q14 t1 6)
  have t24 : (wt_gf q14 t1 6).toInt = (wt_gf q11 t1 6).toInt := congrArg Int32.toInt (f16.1 t1 6 (fun z => z))
  have b25 := wt_bd (wt_gf q11 t1 6)
  have t26 : (wt_gf q11 t1 6).toInt = (wt_gf q8 t1 6).toInt := congrArg Int32.toInt (f13.1 t1 6 (fun z => z))
  have b27 := wt_bd (wt_gf q8 t1 6)
  have t28 : (wt_gf q8 t1 6).toInt = (wt_gf q5 t1 6).toInt := congrArg Int32.toInt (f10.1 t1 6 (fun z => z))
  have b29 := wt_bd (wt_gf q5 t1 6)
  have t30 : (wt_gf q5 t1 6).toInt = (wt_gf q2 t1 6).toInt := congrArg Int32.toInt (f7.1 t1 6 (fun z => z))
  have b31 := wt_bd (wt_gf q2 t1 6)
  have t32 : (wt_gf q2 t1 6).toInt = (wt_gf σ t1 6).toInt := congrArg Int32.toInt (f4.1 t1 6 (fun z => z))
  have b33 := wt_bd (wt_gf σ t1 6)
  obtain ⟨σ34, eσ34⟩ : ∃ z : wt_St, z = wt_sf σ20 t0 7 (wt_gf σ20 t1 7) := ⟨_, rfl⟩
  rw [← eσ34]
  have fσ34 := wt_fr_sf eσ34
  have vσ34 := wt_ceq (wt_v_sf eσ34)
  have b35 := wt_bd (wt_gf σ20 t1 7)
  have t36 : (wt_gf σ20 t1 7).toInt = (wt_gf q17 t1 7).toInt := congrArg Int32.toInt (fσ20.1 t1 7 (by (try dsimp only); omega))
  have b37 := wt_bd (wt_gf q17 t1 7)
  have t38 : (wt_gf q17 t1 7).toInt = (wt_gf q14 t1 7).toInt := congrArg Int32.toInt (f19.1 t1 7 (fun z => z))
  have b39 := wt_bd (wt_gf q14 t1 7)
  have t40 : (wt_gf q14 t1 7).toInt = (wt_gf q11 t1 7).toInt := congrArg Int32.toInt (f16.1 t1 7 (fun z => z))
  have b41 := wt_bd (wt_gf q11 t1 7)
  have t42 : (wt_gf q11 t1 7).toInt = (wt_gf q8 t1 7).toInt := congrArg Int32.toInt (f13.1 t1 7 (fun z => z))
  have b43 := wt_bd (wt_gf q8 t1 7)
  have t44 : (wt_gf q8 t1 7).toInt = (wt_gf q5 t1 7).toInt := congrArg Int32.toInt (f10.1 t1 7 (fun z => z))
  have b45 := wt_bd (wt_gf q5 t1 7)
  have t46 : (wt_gf q5 t1 7).toInt = (wt_gf q2 t1 7).toInt := congrArg Int32.toInt (f7.1 t1 7 (fun z => z))
  have b47 := wt_bd (wt_gf q2 t1 7)
  have t48 : (wt_gf q2 t1 7).toInt = (wt_gf σ t1 7).toInt := congrArg Int32.toInt (f4.1 t1 7 (fun z => z))
  have b49 := wt_bd (wt_gf σ t1 7)
  refine wt_T_some ?_
  exact (wt_fr.tr (wt_fr.tr (wt_fr.tr (wt_fr.tr (wt_fr.tr (wt_fr.tr (wt_fr.tr (wt_fr.tr wt_fr.rf f4 (fun i k h => h.elim) (fun i h => by (try dsimp only at h); exact Or.inl (by omega))) f7 (fun i k h => h.elim) (fun i h => by (try dsimp only at h); exact Or.inr (Or.inl (by omega)))) f10 (fun i k h => h.elim) (fun i h => by (try dsimp only at h); exact Or.inr (Or.inr (Or.inl (by omega))))) f13 (fun i k h => h.elim) (fun i h => by (try dsimp only at h); exact Or.inr (Or.inr (Or.inr (Or.inl (by omega)))))) f16 (fun i k h => h.elim) (fun i h => by (try dsimp only at h); exact Or.inr (Or.inr (Or.inr (Or.inr (Or.inl (by omega))))))) f19 (fun i k h => h.elim) (fun i h => by (try dsimp only at h); exact Or.inr (Or.inr (Or.inr (Or.inr (Or.inr ((by omega)))))))) fσ20 (fun i k h => by (try dsimp only at h); exact Or.inl (by omega)) (fun i h => h.elim)) fσ34 (fun i k h => by (try dsimp only at h); exact Or.inr ((by omega))) (fun i h => h.elim))
set_option maxRecDepth 100000 in
set_option maxHeartbeats 4000000 in
theorem wq_tg_fillWord (n : Nat) (hn : 4294967297 < n) (t0 : Nat) (x2 : Int32) (σ : wt_St) : wt_T (wp_tg_fillWord n t0 x2 σ) (fun q => wt_fr (fun i k => (i = 1 ∧ k = 5) ∨ (i = 1 ∧ k = 4) ∨ (i = 1 ∧ k = 6) ∨ (i = 1 ∧ k = 7) ∨ (i = t0 ∧ k = 6)) (fun i => i = 3 ∨ i = t0 + 2 ∨ i = t0 + 3 ∨ i = t0 + 4 ∨ i = t0 + 1) σ q.2) := by
  unfold wp_tg_fillWord
  have b1 := wt_bd n
  refine wt_T_bi (wq_tp_takeWord n hn σ) (fun q2 h3 => ?_)
  have f4 := h3
  have b5 := wt_bd q2.1
  have k6 : (0 : Int32).toInt = 0 := by decide
  refine wt_T_if (fun h7 => ?_) (fun h7 => ?_)
  · skip
    have c8 := wt_ceq h7
    refine wt_T_some ?_
    exact (wt_fr.tr wt_fr.rf f4 (fun i k h => by (try dsimp only at h); rcases h with h | h | h | h; exact Or.inl (by omega); exact Or.inr (Or.inl (by omega)); exact Or.inr (Or.inr (Or.inl (by omega))); exact Or.inr (Or.inr (Or.inr (Or.inl (by omega))))) (fun i h => by (try dsimp only at h); exact Or.inl (by omega)))
  · skip
    have c9 := wt_nceq h7
    refine wt_T_bi (wq_tp_wordLength n hn q2.2) (fun q10 h11 => ?_)
    have e12 := h11
    rw [e12]
    have k13 : (9 : Int32).toInt = 9 := by decide
    have b14 := wt_bd q10.1
    refine wt_T_if (fun h15 => ?_) (fun h15 => ?_)
    · skip
      have c16 := wt_clt h15
      unfold wp_tg_fillWord_B33
      have k17 : (2 : Int32).toInt = 2 := by decide
      refine wt_T_bi (wq_tp_fail n hn (2 : Int32) q2.2) (fun q18 h19 => ?_)
      have f20 := h19
      refine wt_T_some ?_
      exact (wt_fr.tr (wt_fr.tr wt_fr.rf f4 (fun i k h => by (try dsimp only at h); rcases h with h | h | h | h; exact Or.inl (by omega); exact Or.inr (Or.inl (by omega)); exact Or.inr (Or.inr (Or.inl (by omega))); exact Or.inr (Or.inr (Or.inr (Or.inl (by omega))))) (fun i h => by (try dsimp only at h); exact Or.inl (by omega))) f20 (fun i k h => by (try dsimp only at h); rcases h with h | h; exact Or.inr (Or.inr (Or.inl (by omega))); exact Or.inr (Or.inr (Or.inr (Or.inl (by omega))))) (fun i h => h.elim))
    · skip
      have c21 := wt_ncl h15
      refine wt_T_bi (wq_tg_find n hn t0 3 q10.1 q2.2) (fun q22 h23 => ?_)
      have e24 := h23
      rw [e24]
      have b25 := wt_bd q22.1
      have k26 : (-1 : Int32).toInt = -1 := by decide
      refine wt_T_if (fun h27 => ?_) (fun h27 => ?_)
      · skip
        have c28 := wt_ceq h27
        have k29 : (20 : Int32).toInt = 20 := by decide
        have b30 := wt_bd (wt_gf q2.2 t0 7)
        refine wt_T_if (fun h31 => ?_) (fun h31 => ?_)
        · skip
          have c32 := wt_cle h31
          unfold wp_tg_fillWord_B62
          have k33 : (3 : Int32).toInt = 3 := by decide
          refine wt_T_bi (wq_tp_fail n hn (3 : Int32) q2.2) (fun q34 h35 => ?_)
          have f36 := h35
          refine wt_T_some ?_
          exact (wt_fr.tr (wt_fr.tr wt_fr.rf f4 (fun i k h => by (try dsimp only at h); rcases h with h | h | h | h; exact Or.inl (by omega); exact Or.inr (Or.inl (by omega)); exact Or.inr (Or.inr (Or.inl (by omega))); exact Or.inr (Or.inr (Or.inr (Or.inl (by omega))))) (fun i h => by (try dsimp only at h); exact Or.inl (by omega))) f36 (fun i k h => by (try dsimp only at h); rcases h with h | h; exact Or.inr (Or.inr (Or.inl (by omega))); exact Or.inr (Or.inr (Or.inr (Or.inl (by omega))))) (fun i h => h.elim))
        · skip
          have c37 := wt_ncle h31
          have k38 : (5 : Int32).toInt = 5 := by decide
          have b39 := wt_bd x2
          refine wt_T_if (fun h40 => ?_) (fun h40 => ?_)
          · skip
            have c41 := wt_cle h40
            unfold wp_tg_fillWord_B62
            have k42 : (3 : Int32).toInt = 3 := by decide
            refine wt_T_bi (wq_tp_fail n hn (3 : Int32) q2.2) (fun q43 h44 => ?_)
            have f45 := h44
            refine wt_T_some ?_
            exact (wt_fr.tr (wt_fr.tr wt_fr.rf f4 (fun i k h => by (try dsimp only at h); rcases h with h | h | h | h; exact Or.inl (by omega); exact Or.inr (Or.inl (by omega)); exact Or.inr (Or.inr (Or.inl (by omega))); exact Or.inr (Or.inr (Or.inr (Or.inl (by omega))))) (fun i h => by (try dsimp only at h); exact Or.inl (by omega))) f45 (fun i k h => by (try dsimp only at h); rcases h with h | h; exact Or.inr (Or.inr (Or.inl (by omega))); exact Or.inr (Or.inr (Or.inr (Or.inl (by omega))))) (fun i h => h.elim))
          · skip
            have c46 := wt_ncle h40
            have b47 := wt_bd (wt_gf q2.2 t0 6)
            have k48 : (60 : Int32).toInt = 60 := by decide
            refine wt_T_if (fun h49 => ?_) (fun h49 => ?_)
            · skip
              have c50 := wt_clt h49
              refine wt_T_it (fun s : Int32 × wt_St => wt_fr (fun i k => False) (fun i => i = t0 + 1) q2.2 s.2 ∧ 0 ≤ (s.1).toInt) (fun s : Int32 × wt_St => (q10.1.toInt - s.1.toInt + 0).toNat) (fun K51 s52 I53 hK51 => ?_) _ _ ?_ ?_
              · skip
                obtain ⟨l54, l55⟩ := I53
                unfold wp_tg_fillWord_B71
                have b56 := wt_bd s52.1
                refine wt_T_if (fun h57 => ?_) (fun h57 => ?_)
                · skip
                  have c58 := wt_cle h57
                  have k59 : (47 : Int32).toInt = 47 := by decide
                  refine wt_T_bi (wq_tp_takeSign n hn (47 : Int32) s52.2) (fun q60 h61 => ?_)
                  have f62 := h61
                  have b63 := wt_bd q60.1
                  refine wt_T_if (fun h64 => ?_) (fun h64 => ?_)
                  · skip
                    have c65 := wt_ceq h64
                    unfold wp_tg_fillWord_B128
                    refine wt_T_if (fun h66 => ?_) (fun h66 => ?_)
                    · skip
                      have c67 := wt_ceq h66
                      refine wt_T_some ?_
                      exact (wt_fr.tr (wt_fr.tr (wt_fr.tr wt_fr.rf f4 (fun i k h => by (try dsimp only at h); rcases h with h | h | h | h; exact Or.inl (by omega); exact Or.inr (Or.inl (by omega)); exact Or.inr (Or.inr (Or.inl (by omega))); exact Or.inr (Or.inr (Or.inr (Or.inl (by omega))))) (fun i h => by (try dsimp only at h); exact Or.inl (by omega))) l54 (fun i k h => h.elim) (fun i h => by (try dsimp only at h); exact Or.inr (Or.inr (Or.inr (Or.inr ((by omega))))))) f62 (fun i k h => by (try dsimp only at h); rcases h with h | h; exact Or.inl (by omega); exact Or.inr (Or.inl (by omega))) (fun i h => h.elim))
                    · skip
                      have c68 := wt_nceq h66
                      have b69 := wt_bd (wt_gf q60.2 t0 6)
                      have t70 : (wt_gf q60.2 t0 6).toInt = (wt_gf s52.2 t0 6).toInt := congrArg Int32.toInt (f62.1 t0 6 (by (try dsimp only); omega))
                      have b71 := wt_bd (wt_gf s52.2 t0 6)
                      have t72 : (wt_gf s52.2 t0 6).toInt = (wt_gf q2.2 t0 6).toInt := congrArg Int32.toInt (l54.1 t0 6 (fun z => z))
                      refine wt_T_bi (wq_ap_put n hn (t0 + 2) (wt_gf q60.2 t0 6) q10.1 q60.2) (fun q73 h74 => ?_)
                      have f75 := h74
                      have b76 := wt_bd (wt_gf q73 t0 6)
                      have t77 : (wt_gf q73 t0 6).toInt = (wt_gf q60.2 t0 6).toInt := congrArg Int32.toInt (f75.1 t0 6 (fun z => z))
                      refine wt_T_bi (wq_ap_put n hn (t0 + 3) (wt_gf q73 t0 6) (0 : Int32) q73) (fun q78 h79 => ?_)
                      have f80 := h79
                      have b81 := wt_bd (wt_gf q78 t0 6)
                      have t82 : (wt_gf q78 t0 6).toInt = (wt_gf q73 t0 6).toInt := congrArg Int32.toInt (f80.1 t0 6 (fun z => z))
                      have b83 := wt_bd (wt_gf q78 t0 7)
                      have t84 : (wt_gf q78 t0 7).toInt = (wt_gf q73 t0 7).toInt := congrArg Int32.toInt (f80.1 t0 7 (fun z => z))
                      have b85 := wt_bd (wt_gf q73 t0 7)
                      have t86 : (wt_gf q73 t0 7).toInt = (wt_gf q60.2 t0 7).toInt := congrArg Int32.toInt (f75.1 t0 7 (fun z => z))
                      have b87 := wt_bd (wt_gf q60.2 t0 7)
                      have t88 : (wt_gf q60.2 t0 7).toInt = (wt_gf s52.2 t0 7).toInt := congrArg Int32.toInt (f62.1 t0 7 (by (try dsimp only); omega))
                      have b89 := wt_bd (wt_gf s52.2 t0 7)
                      have t90 : (wt_gf s52.2 t0 7).toInt = (wt_gf q2.2 t0 7).toInt := congrArg Int32.toInt (l54.1 t0 7 (fun z => z))
                      refine wt_T_bi (wq_ap_put n hn (t0 + 4) (wt_gf q78 t0 6) (wt_gf q78 t0 7) q78) (fun q91 h92 => ?_)
                      have f93 := h92
                      obtain ⟨σ94, eσ94⟩ : ∃ z : wt_St, z = wt_sf q91 t0 6 ((wt_gf q91 t0 6) + (1 : Int32)) := ⟨_, rfl⟩
                      rw [← eσ94]
                      have fσ94 := wt_fr_sf eσ94
                      have vσ94 := wt_ceq (wt_v_sf eσ94)
                      have b95 := wt_bd (wt_gf q91 t0 6)
                      have t96 : (wt_gf q91 t0 6).toInt = (wt_gf q78 t0 6).toInt := congrArg Int32.toInt (f93.1 t0 6 (fun z => z))
                      have k97 : (1 : Int32).toInt = 1 := by decide
                      obtain ⟨j98, j98a, j98b⟩ := wt_addI (wt_gf q91 t0 6) (1 : Int32)
                      refine wt_T_some ?_
                      exact (wt_fr.tr (wt_fr.tr (wt_fr.tr (wt_fr.tr (wt_fr.tr (wt_fr.tr (wt_fr.tr wt_fr.rf f4 (fun i k h => by (try dsimp only at h); rcases h with h | h | h | h; exact Or.inl (by omega); exact Or.inr (Or.inl (by omega)); exact Or.inr (Or.inr (Or.inl (by omega))); exact Or.inr (Or.inr (Or.inr (Or.inl (by omega))))) (fun i h => by (try dsimp only at h); exact Or.inl (by omega))) l54 (fun i k h => h.elim) (fun i h => by (try dsimp only at h); exact Or.inr (Or.inr (Or.inr (Or.inr ((by omega))))))) f62 (fun i k h => by (try dsimp only at h); rcases h with h | h; exact Or.inl (by omega); exact Or.inr (Or.inl (by omega))) (fun i h => h.elim)) f75 (fun i k h => h.elim) (fun i h => by (try dsimp only at h); exact Or.inr (Or.inl (by omega)))) f80 (fun i k h => h.elim) (fun i h => by (try dsimp only at h); exact Or.inr (Or.inr (Or.inl (by omega))))) f93 (fun i k h => h.elim) (fun i h => by (try dsimp only at h); exact Or.inr (Or.inr (Or.inr (Or.inl (by omega)))))) fσ94 (fun i k h => by (try dsimp only at h); exact Or.inr (Or.inr (Or.inr (Or.inr ((by omega)))))) (fun i h => h.elim))
                  · skip
                    have c99 := wt_nceq h64
                    have k100 : (3 : Int32).toInt = 3 := by decide
                    refine wt_T_bi (wq_tp_takeNumber n hn (0 : Int32) (3 : Int32) q60.2) (fun q101 h102 => ?_)
                    have f103 := h102
                    unfold wp_tg_fillWord_B128
                    have b104 := wt_bd q101.1
                    refine wt_T_if (fun h105 => ?_) (fun h105 => ?_)
                    · skip
                      have c106 := wt_ceq h105
                      refine wt_T_some ?_
                      exact (wt_fr.tr (wt_fr.tr (wt_fr.tr (wt_fr.tr wt_fr.rf f4 (fun i k h => by (try dsimp only at h); rcases h with h | h | h | h; exact Or.inl (by omega); exact Or.inr (Or.inl (by omega)); exact Or.inr (Or.inr (Or.inl (by omega))); exact Or.inr (Or.inr (Or.inr (Or.inl (by omega))))) (fun i h => by (try dsimp only at h); exact Or.inl (by omega))) l54 (fun i k h => h.elim) (fun i h => by (try dsimp only at h); exact Or.inr (Or.inr (Or.inr (Or.inr ((by omega))))))) f62 (fun i k h => by (try dsimp only at h); rcases h with h | h; exact Or.inl (by omega); exact Or.inr (Or.inl (by omega))) (fun i h => h.elim)) f103 (fun i k h => by (try dsimp only at h); rcases h with h | h | h | h; exact Or.inl (by omega); exact Or.inr (Or.inl (by omega)); exact Or.inr (Or.inr (Or.inl (by omega))); exact Or.inr (Or.inr (Or.inr (Or.inl (by omega))))) (fun i h => h.elim))
                    · skip
                      have c107 := wt_nceq h105
                      have b108 := wt_bd (wt_gf q101.2 t0 6)
                      refine wt_T_bi (wq_ap_put n hn (t0 + 2) (wt_gf q101.2 t0 6) q10.1 q101.2) (fun q109 h110 => ?_)
                      have f111 := h110
                      have b112 := wt_bd (wt_gf q109 t0 6)
                      have t113 : (wt_gf q109 t0 6).toInt = (wt_gf q101.2 t0 6).toInt := congrArg Int32.toInt (f111.1 t0 6 (fun z => z))
                      refine wt_T_bi (wq_ap_put n hn (t0 + 3) (wt_gf q109 t0 6) q101.1 q109) (fun q114 h115 => ?_)
                      have f116 := h115
                      have b117 := wt_bd (wt_gf q114 t0 6)
                      have t118 : (wt_gf q114 t0 6).toInt = (wt_gf q109 t0 6).toInt := congrArg Int32.toInt (f116.1 t0 6 (fun z => z))
                      have b119 := wt_bd (wt_gf q114 t0 7)
                      have t120 : (wt_gf q114 t0 7).toInt = (wt_gf q109 t0 7).toInt := congrArg Int32.toInt (f116.1 t0 7 (fun z => z))
                      have b121 := wt_bd (wt_gf q109 t0 7)
                      have t122 : (wt_gf q109 t0 7).toInt = (wt_gf q101.2 t0 7).toInt := congrArg Int32.toInt (f111.1 t0 7 (fun z => z))
                      have b123 := wt_bd (wt_gf q101.2 t0 7)
                      refine wt_T_bi (wq_ap_put n hn (t0 + 4) (wt_gf q114 t0 6) (wt_gf q114 t0 7) q114) (fun q124 h125 => ?_)
                      have f126 := h125
                      obtain ⟨σ127, eσ127⟩ : ∃ z : wt_St, z = wt_sf q124 t0 6 ((wt_gf q124 t0 6) + (1 : Int32)) := ⟨_, rfl⟩
                      rw [← eσ127]
                      have fσ127 := wt_fr_sf eσ127
                      have vσ127 := wt_ceq (wt_v_sf eσ127)
                      have b128 := wt_bd (wt_gf q124 t0 6)
                      have t129 : (wt_gf q124 t0 6).toInt = (wt_gf q114 t0 6).toInt := congrArg Int32.toInt (f126.1 t0 6 (fun z => z))
                      have k130 : (1 : Int32).toInt = 1 := by decide
                      obtain ⟨j131, j131a, j131b⟩ := wt_addI (wt_gf q124 t0 6) (1 : Int32)
                      refine wt_T_some ?_
                      exact (wt_fr.tr (wt_fr.tr (wt_fr.tr (wt_fr.tr (wt_fr.tr (wt_fr.tr (wt_fr.tr (wt_fr.tr wt_fr.rf f4 (fun i k h => by (try dsimp only at h); rcases h with h | h | h | h; exact Or.inl (by omega); exact Or.inr (Or.inl (by omega)); exact Or.inr (Or.inr (Or.inl (by omega))); exact Or.inr (Or.inr (Or.inr (Or.inl (by omega))))) (fun i h => by (try dsimp only at h); exact Or.inl (by omega))) l54 (fun i k h => h.elim) (fun i h => by (try dsimp only at h); exact Or.inr (Or.inr (Or.inr (Or.inr ((by omega))))))) f62 (fun i k h => by (try dsimp only at h); rcases h with h | h; exact Or.inl (by omega); exact Or.inr (Or.inl (by omega))) (fun i h => h.elim)) f103 (fun i k h => by (try dsimp only at h); rcases h with h | h | h | h; exact Or.inl (by omega); exact Or.inr (Or.inl (by omega)); exact Or.inr (Or.inr (Or.inl (by omega))); exact Or.inr (Or.inr (Or.inr (Or.inl (by omega))))) (fun i h => h.elim)) f111 (fun i k h => h.elim) (fun i h => by (try dsimp only at h); exact Or.inr (Or.inl (by omega)))) f116 (fun i k h => h.elim) (fun i h => by (try dsimp only at h); exact Or.inr (Or.inr (Or.inl (by omega))))) f126 (fun i k h => h.elim) (fun i h => by (try dsimp only at h); exact Or.inr (Or.inr (Or.inr (Or.inl (by omega)))))) fσ127 (fun i k h => by (try dsimp only at h); exact Or.inr (Or.inr (Or.inr (Or.inr ((by omega)))))) (fun i h => h.elim))
                · skip
                  have c132 := wt_ncle h57
                  refine wt_T_bi (wq_ap_look n hn 3 s52.1 s52.2) (fun q133 h134 => ?_)
                  obtain ⟨e135, e135v⟩ := h134
                  have e136 := wt_ceq e135v
                  have b137 := wt_bd (wt_lk 3 s52.1 s52.2)
                  have b138 := wt_bd q133.1
                  rw [e135]
                  have b139 := wt_bd (wt_gf s52.2 t0 6)
                  have t140 : (wt_gf s52.2 t0 6).toInt = (wt_gf q2.2 t0 6).toInt := congrArg Int32.toInt (l54.1 t0 6 (fun z => z))
                  obtain ⟨j141, j141a, j141b⟩ := wt_mulI (wt_gf s52.2 t0 6) (9 : Int32)
                  obtain ⟨j142, j142a, j142b⟩ := wt_addI ((wt_gf s52.2 t0 6) * (9 : Int32)) s52.1
                  refine wt_T_bi (wq_ap_put n hn (t0 + 1) (((wt_gf s52.2 t0 6) * (9 : Int32)) + s52.1) q133.1 s52.2) (fun q143 h144 => ?_)
                  have f145 := h144
                  have k146 : (1 : Int32).toInt = 1 := by decide
                  obtain ⟨j147, j147a, j147b⟩ := wt_addI s52.1 (1 : Int32)
                  refine hK51 _ ⟨(wt_fr.tr (wt_fr.tr wt_fr.rf l54 (fun i k h => h.elim) (fun i h => by (try dsimp only at h); exact (by omega))) f145 (fun i k h => h.elim) (fun i h => by (try dsimp only at h); exact (by omega))), (by (try dsimp only); omega)⟩ ?_
                  (try dsimp only); omega
              · skip
                exact ⟨wt_fr.rf, (by (try dsimp only); omega)⟩
              · skip
                (try dsimp only); omega
            · skip
              have c148 := wt_ncl h49
              unfold wp_tg_fillWord_B62
              have k149 : (3 : Int32).toInt = 3 := by decide
              refine wt_T_bi (wq_tp_fail n hn (3 : Int32) q2.2) (fun q150 h151 => ?_)
              have f152 := h151
              refine wt_T_some ?_
              exact (wt_fr.tr (wt_fr.tr wt_fr.rf f4 (fun i k h => by (try dsimp only at h); rcases h with h | h | h | h; exact Or.inl (by omega); exact Or.inr (Or.inl (by omega)); exact Or.inr (Or.inr (Or.inl (by omega))); exact Or.inr (Or.inr (Or.inr (Or.inl (by omega))))) (fun i h => by (try dsimp only at h); exact Or.inl (by omega))) f152 (fun i k h => by (try dsimp only at h); rcases h with h | h; exact Or.inr (Or.inr (Or.inl (by omega))); exact Or.inr (Or.inr (Or.inr (Or.inl (by omega))))) (fun i h => h.elim))
      · skip
        have c153 := wt_nceq h27
        unfold wp_tg_fillWord_B33
        have k154 : (2 : Int32).toInt = 2 := by decide
        refine wt_T_bi (wq_tp_fail n hn (2 : Int32) q2.2) (fun q155 h156 => ?_)
        have f157 := h156
        refine wt_T_some ?_
        exact (wt_fr.tr (wt_fr.tr wt_fr.rf f4 (fun i k h => by (try dsimp only at h); rcases h with h | h | h | h; exact Or.inl (by omega); exact Or.inr (Or.inl (by omega)); exact Or.inr (Or.inr (Or.inl (by omega))); exact Or.inr (Or.inr (Or.inr (Or.inl (by omega))))) (fun i h => by (try dsimp only at h); exact Or.inl (by omega))) f157 (fun i k h => by (try dsimp only at h); rcases h with h | h; exact Or.inr (Or.inr (Or.inl (by omega))); exact Or.inr (Or.inr (Or.inr (Or.inl (by omega))))) (fun i h => h.elim))
set_option maxRecDepth 100000 in
set_option maxHeartbeats 4000000 in
theorem wq_tg_fillGroup (n : Nat) (hn : 4294967297 < n) (t0 : Nat) (σ : wt_St) : wt_T (wp_tg_fillGroup n t0 σ) (fun q => wt_fr (fun i k => (i = 1 ∧ k = 5) ∨ (i = 1 ∧ k = 4) ∨ (i = 1 ∧ k = 6) ∨ (i = 1 ∧ k = 7) ∨ (i = t0 ∧ k = 6) ∨ (i = t0 ∧ k = 7)) (fun i => i = 3 ∨ i = t0 + 2 ∨ i = t0 + 3 ∨ i = t0 + 4 ∨ i = t0 + 1 ∨ i = t0 + 5 ∨ i = t0 + 6) σ q.2) := by
  unfold wp_tg_fillGroup
  have k6 : (0 : Int32).toInt = 0 := by decide
  refine wt_T_it (fun s : Int32 × wt_St => wt_fr (fun i k => (i = 1 ∧ k = 5) ∨ (i = 1 ∧ k = 4) ∨ (i = 1 ∧ k = 6) ∨ (i = 1 ∧ k = 7) ∨ (i = t0 ∧ k = 6)) (fun i => i = 3 ∨ i = t0 + 2 ∨ i = t0 + 3 ∨ i = t0 + 4 ∨ i = t0 + 1) σ s.2 ∧ 0 ≤ (s.1).toInt) (fun s : Int32 × wt_St => ((5 : Int32).toInt - s.1.toInt + 1).toNat) (fun K1 s2 I3 hK1 => ?_) _ _ ?_ ?_
  · skip
    obtain ⟨l4, l5⟩ := I3
    unfold wp_tg_fillGroup_B7
    have k7 : (5 : Int32).toInt = 5 := by decide
    have b8 := wt_bd s2.1
    refine wt_T_if (fun h9 => ?_) (fun h9 => ?_)
    · skip
      have c10 := wt_clt h9
      refine wt_T_some ?_
      exact (wt_fr.tr wt_fr.rf l4 (fun i k h => by (try dsimp only at h); rcases h with h | h | h | h | h; exact Or.inl (by omega); exact Or.inr (Or.inl (by omega)); exact Or.inr (Or.inr (Or.inl (by omega))); exact Or.inr (Or.inr (Or.inr (Or.inl (by omega)))); exact Or.inr (Or.inr (Or.inr (Or.inr (Or.inl (by omega)))))) (fun i h => by (try dsimp only at h); rcases h with h | h | h | h | h; exact Or.inl (by omega); exact Or.inr (Or.inl (by omega)); exact Or.inr (Or.inr (Or.inl (by omega))); exact Or.inr (Or.inr (Or.inr (Or.inl (by omega)))); exact Or.inr (Or.inr (Or.inr (Or.inr (Or.inl (by omega)))))))
    · skip
      have c11 := wt_ncl h9
      have b12 := wt_bd n
      refine wt_T_bi (wq_tg_fillWord n hn t0 s2.1 s2.2) (fun q13 h14 => ?_)
      have f15 := h14
      have b16 := wt_bd q13.1
      refine wt_T_if (fun h17 => ?_) (fun h17 => ?_)
      · skip
        have c18 := wt_ceq h17
        refine wt_T_some ?_
        exact (wt_fr.tr (wt_fr.tr wt_fr.rf l4 (fun i k h => by (try dsimp only at h); rcases h with h | h | h | h | h; exact Or.inl (by omega); exact Or.inr (Or.inl (by omega)); exact Or.inr (Or.inr (Or.inl (by omega))); exact Or.inr (Or.inr (Or.inr (Or.inl (by omega)))); exact Or.inr (Or.inr (Or.inr (Or.inr (Or.inl (by omega)))))) (fun i h => by (try dsimp only at h); rcases h with h | h | h | h | h; exact Or.inl (by omega); exact Or.inr (Or.inl (by omega)); exact Or.inr (Or.inr (Or.inl (by omega))); exact Or.inr (Or.inr (Or.inr (Or.inl (by omega)))); exact Or.inr (Or.inr (Or.inr (Or.inr (Or.inl (by omega))))))) f15 (fun i k h => by (try dsimp only at h); rcases h with h | h | h | h | h; exact Or.inl (by omega); exact Or.inr (Or.inl (by omega)); exact Or.inr (Or.inr (Or.inl (by omega))); exact Or.inr (Or.inr (Or.inr (Or.inl (by omega)))); exact Or.inr (Or.inr (Or.inr (Or.inr (Or.inl (by omega)))))) (fun i h => by (try dsimp only at h); rcases h with h | h | h | h | h; exact Or.inl (by omega); exact Or.inr (Or.inl (by omega)); exact Or.inr (Or.inr (Or.inl (by omega))); exact Or.inr (Or.inr (Or.inr (Or.inl (by omega)))); exact Or.inr (Or.inr (Or.inr (Or.inr (Or.inl (by omega)))))))
      · skip
        have c19 := wt_nceq h17
        have k20 : (44 : Int32).toInt = 44 := by decide
        refine wt_T_bi (wq_tp_takeSign n hn (44 : Int32) q13.2) (fun q21 h22 => ?_)
        have f23 := h22
        have b24 := wt_bd q21.1
        refine wt_T_if (fun h25 => ?_) (fun h25 => ?_)
        · skip
          have c26 := wt_ceq h25
          have b27 := wt_bd (wt_gf q21.2 t0 7)
          have t28 : (wt_gf q21.2 t0 7).toInt = (wt_gf q13.2 t0 7).toInt := congrArg Int32.toInt (f23.1 t0 7 (by (try dsimp only); omega))
          have b29 := wt_bd (wt_gf q13.2 t0 7)
          have b30 := wt_bd (wt_gf σ t0 6)
          refine wt_T_bi (wq_ap_put n hn (t0 + 5) (wt_gf q21.2 t0 7) (wt_gf σ t0 6) q21.2) (fun q31 h32 => ?_)
          have f33 := h32
          have b34 := wt_bd (wt_gf q31 t0 7)
          have t35 : (wt_gf q31 t0 7).toInt = (wt_gf q21.2 t0 7).toInt := congrArg Int32.toInt (f33.1 t0 7 (fun z => z))
          have b36 := wt_bd (wt_gf q31 t0 6)
          have t37 : (wt_gf q31 t0 6).toInt = (wt_gf q21.2 t0 6).toInt := congrArg Int32.toInt (f33.1 t0 6 (fun z => z))
          have b38 := wt_bd (wt_gf q21.2 t0 6)
          have t39 : (wt_gf q21.2 t0 6).toInt = (wt_gf q13.2 t0 6).toInt := congrArg Int32.toInt (f23.1 t0 6 (by (try dsimp only); omega))
          have b40 := wt_bd (wt_gf q13.2 t0 6)
          obtain ⟨j41, j41a, j41b⟩ := wt_subI (wt_gf q31 t0 6) (wt_gf σ t0 6)
          refine wt_T_bi (wq_ap_put n hn (t0 + 6) (wt_gf q31 t0 7) ((wt_gf q31 t0 6) - (wt_gf σ t0 6)) q31) (fun q42 h43 => ?_)
          have f44 := h43
          obtain ⟨σ45, eσ45⟩ : ∃ z : wt_St, z = wt_sf q42 t0 7 ((wt_gf q42 t0 7) + (1 : Int32)) := ⟨_, rfl⟩
          rw [← eσ45]
          have fσ45 := wt_fr_sf eσ45
          have vσ45 := wt_ceq (wt_v_sf eσ45)
          have b46 := wt_bd (wt_gf q42 t0 7)
          have t47 : (wt_gf q42 t0 7).toInt = (wt_gf q31 t0 7).toInt := congrArg Int32.toInt (f44.1 t0 7 (fun z => z))
          have k48 : (1 : Int32).toInt = 1 := by decide
          obtain ⟨j49, j49a, j49b⟩ := wt_addI (wt_gf q42 t0 7) (1 : Int32)
          have k50 : (59 : Int32).toInt = 59 := by decide
          refine wt_T_bi (wq_tp_needSign n hn (59 : Int32) σ45) (fun q51 h52 => ?_)
          have f53 := h52
          refine wt_T_some ?_
          exact (wt_fr.tr (wt_fr.tr (wt_fr.tr (wt_fr.tr (wt_fr.tr (wt_fr.tr (wt_fr.tr wt_fr.rf l4 (fun i k h => by (try dsimp only at h); rcases h with h | h | h | h | h; exact Or.inl (by omega); exact Or.inr (Or.inl (by omega)); exact Or.inr (Or.inr (Or.inl (by omega))); exact Or.inr (Or.inr (Or.inr (Or.inl (by omega)))); exact Or.inr (Or.inr (Or.inr (Or.inr (Or.inl (by omega)))))) (fun i h => by (try dsimp only at h); rcases h with h | h | h | h | h; exact Or.inl (by omega); exact Or.inr (Or.inl (by omega)); exact Or.inr (Or.inr (Or.inl (by omega))); exact Or.inr (Or.inr (Or.inr (Or.inl (by omega)))); exact Or.inr (Or.inr (Or.inr (Or.inr (Or.inl (by omega))))))) f15 (fun i k h => by (try dsimp only at h); rcases h with h | h | h | h | h; exact Or.inl (by omega); exact Or.inr (Or.inl (by omega)); exact Or.inr (Or.inr (Or.inl (by omega))); exact Or.inr (Or.inr (Or.inr (Or.inl (by omega)))); exact Or.inr (Or.inr (Or.inr (Or.inr (Or.inl (by omega)))))) (fun i h => by (try dsimp only at h); rcases h with h | h | h | h | h; exact Or.inl (by omega); exact Or.inr (Or.inl (by omega)); exact Or.inr (Or.inr (Or.inl (by omega))); exact Or.inr (Or.inr (Or.inr (Or.inl (by omega)))); exact Or.inr (Or.inr (Or.inr (Or.inr (Or.inl (by omega))))))) f23 (fun i k h => by (try dsimp only at h); rcases h with h | h; exact Or.inl (by omega); exact Or.inr (Or.inl (by omega))) (fun i h => h.elim)) f33 (fun i k h => h.elim) (fun i h => by (try dsimp only at h); exact Or.inr (Or.inr (Or.inr (Or.inr (Or.inr (Or.inl (by omega)))))))) f44 (fun i k h => h.elim) (fun i h => by (try dsimp only at h); exact Or.inr (Or.inr (Or.inr (Or.inr (Or.inr (Or.inr ((by omega))))))))) fσ45 (fun i k h => by (try dsimp only at h); exact Or.inr (Or.inr (Or.inr (Or.inr (Or.inr ((by omega))))))) (fun i h => h.elim)) f53 (fun i k h => by (try dsimp only at h); rcases h with h | h | h | h; exact Or.inl (by omega); exact Or.inr (Or.inl (by omega)); exact Or.inr (Or.inr (Or.inl (by omega))); exact Or.inr (Or.inr (Or.inr (Or.inl (by omega))))) (fun i h => h.elim))
        · skip
          have c54 := wt_nceq h25
          have k55 : (1 : Int32).toInt = 1 := by decide
          obtain ⟨j56, j56a, j56b⟩ := wt_addI s2.1 (1 : Int32)
          refine hK1 _ ⟨(wt_fr.tr (wt_fr.tr (wt_fr.tr wt_fr.rf l4 (fun i k h => by (try dsimp only at h); rcases h with h | h | h | h | h; exact Or.inl (by omega); exact Or.inr (Or.inl (by omega)); exact Or.inr (Or.inr (Or.inl (by omega))); exact Or.inr (Or.inr (Or.inr (Or.inl (by omega)))); exact Or.inr (Or.inr (Or.inr (Or.inr ((by omega)))))) (fun i h => by (try dsimp only at h); rcases h with h | h | h | h | h; exact Or.inl (by omega); exact Or.inr (Or.inl (by omega)); exact Or.inr (Or.inr (Or.inl (by omega))); exact Or.inr (Or.inr (Or.inr (Or.inl (by omega)))); exact Or.inr (Or.inr (Or.inr (Or.inr ((by omega))))))) f15 (fun i k h => by (try dsimp only at h); rcases h with h | h | h | h | h; exact Or.inl (by omega); exact Or.inr (Or.inl (by omega)); exact Or.inr (Or.inr (Or.inl (by omega))); exact Or.inr (Or.inr (Or.inr (Or.inl (by omega)))); exact Or.inr (Or.inr (Or.inr (Or.inr ((by omega)))))) (fun i h => by (try dsimp only at h); rcases h with h | h | h | h | h; exact Or.inl (by omega); exact Or.inr (Or.inl (by omega)); exact Or.inr (Or.inr (Or.inl (by omega))); exact Or.inr (Or.inr (Or.inr (Or.inl (by omega)))); exact Or.inr (Or.inr (Or.inr (Or.inr ((by omega))))))) f23 (fun i k h => by (try dsimp only at h); rcases h with h | h; exact Or.inl (by omega); exact Or.inr (Or.inl (by omega))) (fun i h => h.elim)), (by (try dsimp only); omega)⟩ ?_
          (try dsimp only); omega
  · skip
    have k57 : (5 : Int32).toInt = 5 := by decide
    exact ⟨wt_fr.rf, (by (try dsimp only); omega)⟩
  · skip
    have k58 : (5 : Int32).toInt = 5 := by decide
    (try dsimp only); omega
set_option maxRecDepth 100000 in
set_option maxHeartbeats 4000000 in
theorem wq_tg_fill (n : Nat) (hn : 4294967297 < n) (t0 : Nat) (σ : wt_St) : wt_T (wp_tg_fill n t0 σ) (fun q => wt_fr (fun i k => (i = t0 ∧ k = 6) ∨ (i = t0 ∧ k = 7) ∨ (i = 1 ∧ k = 5) ∨ (i = 1 ∧ k = 4) ∨ (i = 1 ∧ k = 6) ∨ (i = 1 ∧ k = 7)) (fun i => i = 3 ∨ i = t0 + 2 ∨ i = t0 + 3 ∨ i = t0 + 4 ∨ i = t0 + 1 ∨ i = t0 + 5 ∨ i = t0 + 6) σ q.2) := by
  unfold wp_tg_fill
  obtain ⟨σ1, eσ1⟩ : ∃ z : wt_St, z = wt_sf σ t0 6 (0 : Int32) := ⟨_, rfl⟩
  rw [← eσ1]
  have fσ1 := wt_fr_sf eσ1
  have vσ1 := wt_ceq (wt_v_sf eσ1)
  have k2 : (0 : Int32).toInt = 0 := by decide
  obtain ⟨σ3, eσ3⟩ : ∃ z : wt_St, z = wt_sf σ1 t0 7 (0 : Int32) := ⟨_, rfl⟩
  rw [← eσ3]
  have fσ3 := wt_fr_sf eσ3
  have vσ3 := wt_ceq (wt_v_sf eσ3)
  refine wt_T_it (fun s : Int32 × wt_St => wt_fr (fun i k => (i = 1 ∧ k = 5) ∨ (i = 1 ∧ k = 4) ∨ (i = 1 ∧ k = 6) ∨ (i = 1 ∧ k = 7) ∨ (i = t0 ∧ k = 6) ∨ (i = t0 ∧ k = 7)) (fun i => i = 3 ∨ i = t0 + 2 ∨ i = t0 + 3 ∨ i = t0 + 4 ∨ i = t0 + 1 ∨ i = t0 + 5 ∨ i = t0 + 6) σ3 s.2 ∧ 0 ≤ (s.1).toInt) (fun s : Int32 × wt_St => ((20 : Int32).toInt - s.1.toInt + 1).toNat) (fun K4 s5 I6 hK4 => ?_) _ _ ?_ ?_
  · skip
    obtain ⟨l7, l8⟩ := I6
    unfold wp_tg_fill_B12
    have k9 : (20 : Int32).toInt = 20 := by decide
    have b10 := wt_bd s5.1
    refine wt_T_if (fun h11 => ?_) (fun h11 => ?_)
    · skip
      have c12 := wt_clt h11
      refine wt_T_some ?_
      exact (wt_fr.tr (wt_fr.tr (wt_fr.tr wt_fr.rf fσ1 (fun i k h => by (try dsimp only at h); exact Or.inl (by omega)) (fun i h => h.elim)) fσ3 (fun i k h => by (try dsimp only at h); exact Or.inr (Or.inl (by omega))) (fun i h => h.elim)) l7 (fun i k h => by (try dsimp only at h); rcases h with h | h | h | h | h | h; exact Or.inr (Or.inr (Or.inl (by omega))); exact Or.inr (Or.inr (Or.inr (Or.inl (by omega)))); exact Or.inr (Or.inr (Or.inr (Or.inr (Or.inl (by omega))))); exact Or.inr (Or.inr (Or.inr (Or.inr (Or.inr ((by omega)))))); exact Or.inl (by omega); exact Or.inr (Or.inl (by omega))) (fun i h => by (try dsimp only at h); rcases h with h | h | h | h | h | h | h; exact Or.inl (by omega); exact Or.inr (Or.inl (by omega)); exact Or.inr (Or.inr (Or.inl (by omega))); exact Or.inr (Or.inr (Or.inr (Or.inl (by omega)))); exact Or.inr (Or.inr (Or.inr (Or.inr (Or.inl (by omega))))); exact Or.inr (Or.inr (Or.inr (Or.inr (Or.inr (Or.inl (by omega)))))); exact Or.inr (Or.inr (Or.inr (Or.inr (Or.inr (Or.inr ((by omega)))))))))
    · skip
      have c13 := wt_ncl h11
      have b14 := wt_bd n
      refine wt_T_bi (wq_tp_over n hn s5.2) (fun q15 h16 => ?_)
      have f17 := h16
      have b18 := wt_bd q15.1
      refine wt_T_if (fun h19 => ?_) (fun h19 => ?_)
      · skip
        have c20 := wt_ceq h19
        refine wt_T_bi (wq_tg_fillGroup n hn t0 q15.2) (fun q21 h22 => ?_)
        have f23 := h22
        have b24 := wt_bd q21.1
        refine wt_T_if (fun h25 => ?_) (fun h25 => ?_)
        · skip
          have c26 := wt_ceq h25
          refine wt_T_some ?_
          exact (wt_fr.tr (wt_fr.tr (wt_fr.tr (wt_fr.tr (wt_fr.tr wt_fr.rf fσ1 (fun i k h => by (try dsimp only at h); exact Or.inl (by omega)) (fun i h => h.elim)) fσ3 (fun i k h => by (try dsimp only at h); exact Or.inr (Or.inl (by omega))) (fun i h => h.elim)) l7 (fun i k h => by (try dsimp only at h); rcases h with h | h | h | h | h | h; exact Or.inr (Or.inr (Or.inl (by omega))); exact Or.inr (Or.inr (Or.inr (Or.inl (by omega)))); exact Or.inr (Or.inr (Or.inr (Or.inr (Or.inl (by omega))))); exact Or.inr (Or.inr (Or.inr (Or.inr (Or.inr ((by omega)))))); exact Or.inl (by omega); exact Or.inr (Or.inl (by omega))) (fun i h => by (try dsimp only at h); rcases h with h | h | h | h | h | h | h; exact Or.inl (by omega); exact Or.inr (Or.inl (by omega)); exact Or.inr (Or.inr (Or.inl (by omega))); exact Or.inr (Or.inr (Or.inr (Or.inl (by omega)))); exact Or.inr (Or.inr (Or.inr (Or.inr (Or.inl (by omega))))); exact Or.inr (Or.inr (Or.inr (Or.inr (Or.inr (Or.inl (by omega)))))); exact Or.inr (Or.inr (Or.inr (Or.inr (Or.inr (Or.inr ((by omega))))))))) f17 (fun i k h => by (try dsimp only at h); rcases h with h | h; exact Or.inr (Or.inr (Or.inl (by omega))); exact Or.inr (Or.inr (Or.inr (Or.inl (by omega))))) (fun i h => h.elim)) f23 (fun i k h => by (try dsimp only at h); rcases h with h | h | h | h | h | h; exact Or.inr (Or.inr (Or.inl (by omega))); exact Or.inr (Or.inr (Or.inr (Or.inl (by omega)))); exact Or.inr (Or.inr (Or.inr (Or.inr (Or.inl (by omega))))); exact Or.inr (Or.inr (Or.inr (Or.inr (Or.inr ((by omega)))))); exact Or.inl (by omega); exact Or.inr (Or.inl (by omega))) (fun i h => by (try dsimp only at h); rcases h with h | h | h | h | h | h | h; exact Or.inl (by omega); exact Or.inr (Or.inl (by omega)); exact Or.inr (Or.inr (Or.inl (by omega))); exact Or.inr (Or.inr (Or.inr (Or.inl (by omega)))); exact Or.inr (Or.inr (Or.inr (Or.inr (Or.inl (by omega))))); exact Or.inr (Or.inr (Or.inr (Or.inr (Or.inr (Or.inl (by omega)))))); exact Or.inr (Or.inr (Or.inr (Or.inr (Or.inr (Or.inr ((by omega)))))))))
        · skip
          have c27 := wt_nceq h25
          have k28 : (1 : Int32).toInt = 1 := by decide
          obtain ⟨j29, j29a, j29b⟩ := wt_addI s5.1 (1 : Int32)
          refine hK4 _ ⟨(wt_fr.tr (wt_fr.tr (wt_fr.tr wt_fr.rf l7 (fun i k h => by (try dsimp only at h); rcases h with h | h | h | h | h | h; exact Or.inl (by omega); exact Or.inr (Or.inl (by omega)); exact Or.inr (Or.inr (Or.inl (by omega))); exact Or.inr (Or.inr (Or.inr (Or.inl (by omega)))); exact Or.inr (Or.inr (Or.inr (Or.inr (Or.inl (by omega))))); exact Or.inr (Or.inr (Or.inr (Or.inr (Or.inr ((by omega))))))) (fun i h => by (try dsimp only at h); rcases h with h | h | h | h | h | h | h; exact Or.inl (by omega); exact Or.inr (Or.inl (by omega)); exact Or.inr (Or.inr (Or.inl (by omega))); exact Or.inr (Or.inr (Or.inr (Or.inl (by omega)))); exact Or.inr (Or.inr (Or.inr (Or.inr (Or.inl (by omega))))); exact Or.inr (Or.inr (Or.inr (Or.inr (Or.inr (Or.inl (by omega)))))); exact Or.inr (Or.inr (Or.inr (Or.inr (Or.inr (Or.inr ((by omega))))))))) f17 (fun i k h => by (try dsimp only at h); rcases h with h | h; exact Or.inl (by omega); exact Or.inr (Or.inl (by omega))) (fun i h => h.elim)) f23 (fun i k h => by (try dsimp only at h); rcases h with h | h | h | h | h | h; exact Or.inl (by omega); exact Or.inr (Or.inl (by omega)); exact Or.inr (Or.inr (Or.inl (by omega))); exact Or.inr (Or.inr (Or.inr (Or.inl (by omega)))); exact Or.inr (Or.inr (Or.inr (Or.inr (Or.inl (by omega))))); exact Or.inr (Or.inr (Or.inr (Or.inr (Or.inr ((by omega))))))) (fun i h => by (try dsimp only at h); rcases h with h | h | h | h | h | h | h; exact Or.inl (by omega); exact Or.inr (Or.inl (by omega)); exact Or.inr (Or.inr (Or.inl (by omega))); exact Or.inr (Or.inr (Or.inr (Or.inl (by omega)))); exact Or.inr (Or.inr (Or.inr (Or.inr (Or.inl (by omega))))); exact Or.inr (Or.inr (Or.inr (Or.inr (Or.inr (Or.inl (by omega)))))); exact Or.inr (Or.inr (Or.inr (Or.inr (Or.inr (Or.inr ((by omega))))))))), (by (try dsimp only); omega)⟩ ?_
          (try dsimp only); omega
      · skip
        have c30 := wt_nceq h19
        refine wt_T_some ?_
        exact (wt_fr.tr (wt_fr.tr (wt_fr.tr (wt_fr.tr wt_fr.rf fσ1 (fun i k h => by (try dsimp only at h); exact Or.inl (by omega)) (fun i h => h.elim)) fσ3 (fun i k h => by (try dsimp only at h); exact Or.inr (Or.inl (by omega))) (fun i h => h.elim)) l7 (fun i k h => by (try dsimp only at h); rcases h with h | h | h | h | h | h; exact Or.inr (Or.inr (Or.inl (by omega))); exact Or.inr (Or.inr (Or.inr (Or.inl (by omega)))); exact Or.inr (Or.inr (Or.inr (Or.inr (Or.inl (by omega))))); exact Or.inr (Or.inr (Or.inr (Or.inr (Or.inr ((by omega)))))); exact Or.inl (by omega); exact Or.inr (Or.inl (by omega))) (fun i h => by (try dsimp only at h); rcases h with h | h | h | h | h | h | h; exact Or.inl (by omega); exact Or.inr (Or.inl (by omega)); exact Or.inr (Or.inr (Or.inl (by omega))); exact Or.inr (Or.inr (Or.inr (Or.inl (by omega)))); exact Or.inr (Or.inr (Or.inr (Or.inr (Or.inl (by omega))))); exact Or.inr (Or.inr (Or.inr (Or.inr (Or.inr (Or.inl (by omega)))))); exact Or.inr (Or.inr (Or.inr (Or.inr (Or.inr (Or.inr ((by omega))))))))) f17 (fun i k h => by (try dsimp only at h); rcases h with h | h; exact Or.inr (Or.inr (Or.inl (by omega))); exact Or.inr (Or.inr (Or.inr (Or.inl (by omega))))) (fun i h => h.elim))
  · skip
    have k31 : (20 : Int32).toInt = 20 := by decide
    exact ⟨wt_fr.rf, (by (try dsimp only); omega)⟩
  · skip
    have k32 : (20 : Int32).toInt = 20 := by decide
    (try dsimp only); omega
set_option maxRecDepth 100000 in
set_option maxHeartbeats 4000000 in
theorem wq_st_addWanted (n : Nat) (hn : 4294967297 < n) (t0 : Nat) (x1 : Int32) (x2 : Int32) (x3 : Int32) (x4 : Int32) (σ : wt_St) : wt_T (wp_st_addWanted n t0 x1 x2 x3 x4 σ) (fun q => wt_fr (fun i k => (i = t0 ∧ k = 8)) (fun i => i = t0 + 5 ∨ i = t0 + 6 ∨ i = t0 + 7 ∨ i = t0 + 8) σ q) := by
  unfold wp_st_addWanted
  have b1 := wt_bd n
  have b2 := wt_bd (wt_gf σ t0 8)
  have b3 := wt_bd x1
  refine wt_T_bi (wq_ap_put n hn (t0 + 5) (wt_gf σ t0 8) x1 σ) (fun q4 h5 => ?_)
  have f6 := h5
  have b7 := wt_bd (wt_gf q4 t0 8)
  have t8 : (wt_gf q4 t0 8).toInt = (wt_gf σ t0 8).toInt := congrArg Int32.toInt (f6.1 t0 8 (fun z => z))
  have b9 := wt_bd x2
  refine wt_T_bi (wq_ap_put n hn (t0 + 6) (wt_gf q4 t0 8) x2 q4) (fun q10 h11 => ?_)
  have f12 := h11
  have b13 := wt_bd (wt_gf q10 t0 8)
  have t14 : (wt_gf q10 t0 8).toInt = (wt_gf q4 t0 8).toInt := congrArg Int32.toInt (f12.1 t0 8 (fun z => z))
  have b15 := wt_bd x3
  refine wt_T_bi (wq_ap_put n hn (t0 + 7) (wt_gf q10 t0 8) x3 q10) (fun q16 h17 => ?_)
  have f18 := h17
  have b19 := wt_bd (wt_gf q16 t0 8)
  have t20 : (wt_gf q16 t0 8).toInt = (wt_gf q10 t0 8).toInt := congrArg Int32.toInt (f18.1 t0 8 (fun z => z))
  have b21 := wt_bd x4
  refine wt_T_bi (wq_ap_put n hn (t0 + 8) (wt_gf q16 t0 8) x4 q16) (fun q22 h23 => ?_)
  have f24 := h23
  obtain ⟨σ25, eσ25⟩ : ∃ z : wt_St, z = wt_sf q22 t0 8 ((wt_gf q22 t0 8) + (1 : Int32)) := ⟨_, rfl⟩
  rw [← eσ25]
  have fσ25 := wt_fr_sf eσ25
  have vσ25 := wt_ceq (wt_v_sf eσ25)
  have b26 := wt_bd (wt_gf q22 t0 8)
  have t27 : (wt_gf q22 t0 8).toInt = (wt_gf q16 t0 8).toInt := congrArg Int32.toInt (f24.1 t0 8 (fun z => z))
  have k28 : (1 : Int32).toInt = 1 := by decide
  obtain ⟨j29, j29a, j29b⟩ := wt_addI (wt_gf q22 t0 8) (1 : Int32)
  refine wt_T_some ?_
  exact (wt_fr.tr (wt_fr.tr (wt_fr.tr (wt_fr.tr (wt_fr.tr wt_fr.rf f6 (fun i k h => h.elim) (fun i h => by (try dsimp only at h); exact Or.inl (by omega))) f12 (fun i k h => h.elim) (fun i h => by (try dsimp only at h); exact Or.inr (Or.inl (by omega)))) f18 (fun i k h => h.elim) (fun i h => by (try dsimp only at h); exact Or.inr (Or.inr (Or.inl (by omega))))) f24 (fun i k h => h.elim) (fun i h => by (try dsimp only at h); exact Or.inr (Or.inr (Or.inr ((by omega)))))) fσ25 (fun i k h => by (try dsimp only at h); exact (by omega)) (fun i h => h.elim))
set_option maxRecDepth 100000 in
set_option maxHeartbeats 4000000 in
theorem wq_rw_waysBehind (n : Nat) (hn : 4294967297 < n) (x1 : Int32) (x2 : Int32) (x3 : Int32) (σ : wt_St) : wt_T (wp_rw_waysBehind n x1 x2 x3 σ) (fun q => q.2 = σ) := by
  unfold wp_rw_waysBehind
  have b1 := wt_bd n
  have b2 := wt_bd x1
  refine wt_T_bi (wq_tx_lengthOf n hn x1 σ) (fun q3 h4 => ?_)
  obtain ⟨e5, e5v⟩ := h4
  have e6 := wt_ceq e5v
  have b7 := wt_bd (wt_lk 36 x1 σ)
  have b8 := wt_bd q3.1
  rw [e5]
  have b9 := wt_bd x2
  have k10 : (1 : Int32).toInt = 1 := by decide
  obtain ⟨j11, j11a, j11b⟩ := wt_addI x2 (1 : Int32)
  refine wt_T_if (fun h12 => ?_) (fun h12 => ?_)
  · skip
    have c13 := wt_clt h12
    refine wt_T_bi (wq_tx_wordAt n hn x1 (x2 + (1 : Int32)) σ) (fun q14 h15 => ?_)
    have e16 := h15
    have k22 : (0 : Int32).toInt = 0 := by decide
    refine wt_T_it (fun s : Int32 × Int32 × wt_St => s.2.2 = σ ∧ 0 ≤ (s.2.1).toInt) (fun s : Int32 × Int32 × wt_St => ((wt_lk2 26 24 q14.1 s.2.2).toInt - s.2.1.toInt + 0).toNat) (fun K17 s18 I19 hK17 => ?_) _ _ ?_ ?_
    · skip
      obtain ⟨l20, l21⟩ := I19
      unfold wp_rw_waysBehind_B38
      rw [l20]
      have b23 := wt_bd (wt_lk2 26 24 q14.1 σ)
      have b24 := wt_bd s18.2.1
      have b25 := wt_bd q14.1
      refine wt_T_bi (wq_tg_membersLike n hn 20 q14.1 σ) (fun q26 h27 => ?_)
      obtain ⟨e28, e28v⟩ := h27
      have e29 := wt_ceq e28v
      have b30 := wt_bd q26.1
      rw [e28]
      refine wt_T_if (fun h31 => ?_) (fun h31 => ?_)
      · skip
        have c32 := wt_cle h31
        refine wt_T_some ?_
        exact rfl
      · skip
        have c33 := wt_ncle h31
        refine wt_T_bi (wq_tg_firstLike n hn 20 q14.1 σ) (fun q34 h35 => ?_)
        have e36 := h35
        rw [e36]
        have b37 := wt_bd x3
        have b38 := wt_bd q34.1
        obtain ⟨j39, j39a, j39b⟩ := wt_addI q34.1 s18.2.1
        refine wt_T_bi (wq_rw_mayFollow n hn x3 (q34.1 + s18.2.1) σ) (fun q40 h41 => ?_)
        have e42 := h41
        rw [e42]
        have b43 := wt_bd q40.1
        refine wt_T_if (fun h44 => ?_) (fun h44 => ?_)
        · skip
          have c45 := wt_ceq h44
          unfold wp_rw_waysBehind_B91
          have b46 := wt_bd s18.1
          obtain ⟨j47, j47a, j47b⟩ := wt_addI s18.1 (0 : Int32)
          obtain ⟨j48, j48a, j48b⟩ := wt_addI s18.2.1 (1 : Int32)
          refine hK17 _ ⟨rfl, (by (try dsimp only); omega)⟩ ?_
          (try dsimp only); omega
        · skip
          have c49 := wt_nceq h44
          refine wt_T_bi (wq_rw_sumAt n hn x1 (x2 + (1 : Int32)) (q34.1 + s18.2.1) σ) (fun q50 h51 => ?_)
          have e52 := h51
          rw [e52]
          unfold wp_rw_waysBehind_B91
          have b53 := wt_bd s18.1
          have b54 := wt_bd q50.1
          obtain ⟨j55, j55a, j55b⟩ := wt_addI s18.1 q50.1
          obtain ⟨j56, j56a, j56b⟩ := wt_addI s18.2.1 (1 : Int32)
          refine hK17 _ ⟨rfl, (by (try dsimp only); omega)⟩ ?_
          (try dsimp only); omega
    · skip
      have b57 := wt_bd (wt_lk2 26 24 q14.1 σ)
      exact ⟨rfl, (by (try dsimp only); omega)⟩
    · skip
      have b58 := wt_bd (wt_lk2 26 24 q14.1 σ)
      (try dsimp only); omega
  · skip
    have c59 := wt_ncl h12
    refine wt_T_some ?_
    exact rfl
set_option maxRecDepth 100000 in
set_option maxHeartbeats 4000000 in
theorem wq_rw_howMany (n : Nat) (hn : 4294967297 < n) (x1 : Int32) (σ : wt_St) : wt_T (wp_rw_howMany n x1 σ) (fun q => wt_fr (fun i k => False) (fun i => i = 82) σ q.2) := by
  unfold wp_rw_howMany
  have b1 := wt_bd n
  have b2 := wt_bd x1
  refine wt_T_bi (wq_tx_lengthOf n hn x1 σ) (fun q3 h4 => ?_)
  obtain ⟨e5, e5v⟩ := h4
  have e6 := wt_ceq e5v
  have b7 := wt_bd (wt_lk 36 x1 σ)
  have b8 := wt_bd q3.1
  rw [e5]
  have k13 : (1 : Int32).toInt = 1 := by decide
  obtain ⟨j14, j14a, j14b⟩ := wt_subI q3.1 (1 : Int32)
  refine wt_T_it (fun s : Int32 × wt_St => wt_fr (fun i k => False) (fun i => i = 82) σ s.2) (fun s : Int32 × wt_St => (s.1.toInt + 1).toNat) (fun K9 s10 I11 hK9 => ?_) _ _ ?_ ?_
  · skip
    have l12 := I11
    unfold wp_rw_howMany_B11
    have b15 := wt_bd s10.1
    have k16 : (0 : Int32).toInt = 0 := by decide
    refine wt_T_if (fun h17 => ?_) (fun h17 => ?_)
    · skip
      have c18 := wt_clt h17
      have k19 : (-1 : Int32).toInt = -1 := by decide
      refine wt_T_bi (wq_rw_waysBehind n hn x1 (-1 : Int32) (-1 : Int32) s10.2) (fun q20 h21 => ?_)
      have e22 := h21
      rw [e22]
      refine wt_T_some ?_
      exact (wt_fr.tr wt_fr.rf l12 (fun i k h => h.elim) (fun i h => by (try dsimp only at h); exact (by omega)))
    · skip
      have c23 := wt_ncl h17
      refine wt_T_bi (wq_tx_wordAt n hn x1 s10.1 s10.2) (fun q24 h25 => ?_)
      have e26 := h25
      rw [e26]
      refine wt_T_it (fun s : Int32 × wt_St => wt_fr (fun i k => False) (fun i => i = 82) s10.2 s.2 ∧ 0 ≤ (s.1).toInt) (fun s : Int32 × wt_St => ((wt_lk2 26 24 q24.1 s.2).toInt - s.1.toInt + 0).toNat) (fun K27 s28 I29 hK27 => ?_) _ _ ?_ ?_
      · skip
        obtain ⟨l30, l31⟩ := I29
        unfold wp_rw_howMany_B28
        have b32 := wt_bd (wt_lk2 26 24 q24.1 s28.2)
        have t33 : (wt_lk2 26 24 q24.1 s28.2).toInt = (wt_lk2 26 24 q24.1 s10.2).toInt := congrArg Int32.toInt (wt_lk2_fr (l30.2 26 (by (try dsimp only); omega)) (l30.2 24 (by (try dsimp only); omega)))
        have b34 := wt_bd (wt_lk2 26 24 q24.1 s10.2)
        have t35 : (wt_lk2 26 24 q24.1 s10.2).toInt = (wt_lk2 26 24 q24.1 σ).toInt := congrArg Int32.toInt (wt_lk2_fr (l12.2 26 (by (try dsimp only); omega)) (l12.2 24 (by (try dsimp only); omega)))
        have b36 := wt_bd (wt_lk2 26 24 q24.1 σ)
        have b37 := wt_bd s28.1
        have b38 := wt_bd q24.1
        refine wt_T_bi (wq_tg_membersLike n hn 20 q24.1 s28.2) (fun q39 h40 => ?_)
        obtain ⟨e41, e41v⟩ := h40
        have e42 := wt_ceq e41v
        have b43 := wt_bd q39.1
        rw [e41]
        refine wt_T_if (fun h44 => ?_) (fun h44 => ?_)
        · skip
          have c45 := wt_cle h44
          have k46 : (-1 : Int32).toInt = -1 := by decide
          obtain ⟨j47, j47a, j47b⟩ := wt_addI s10.1 (-1 : Int32)
          refine hK9 _ (wt_fr.tr (wt_fr.tr wt_fr.rf l12 (fun i k h => h.elim) (fun i h => by (try dsimp only at h); exact (by omega))) l30 (fun i k h => h.elim) (fun i h => by (try dsimp only at h); exact (by omega))) ?_
          (try dsimp only); omega
        · skip
          have c48 := wt_ncle h44
          refine wt_T_bi (wq_tg_firstLike n hn 20 q24.1 s28.2) (fun q49 h50 => ?_)
          have e51 := h50
          rw [e51]
          have b52 := wt_bd q49.1
          obtain ⟨j53, j53a, j53b⟩ := wt_addI q49.1 s28.1
          refine wt_T_bi (wq_rw_waysBehind n hn x1 s10.1 (q49.1 + s28.1) s28.2) (fun q54 h55 => ?_)
          have e56 := h55
          rw [e56]
          have k57 : (5 : Int32).toInt = 5 := by decide
          obtain ⟨j58, j58a, j58b⟩ := wt_mulI s10.1 (5 : Int32)
          obtain ⟨j59, j59a, j59b⟩ := wt_addI (s10.1 * (5 : Int32)) s28.1
          have b60 := wt_bd q54.1
          refine wt_T_bi (wq_ap_put n hn 82 ((s10.1 * (5 : Int32)) + s28.1) q54.1 s28.2) (fun q61 h62 => ?_)
          have f63 := h62
          obtain ⟨j64, j64a, j64b⟩ := wt_addI s28.1 (1 : Int32)
          have b65 := wt_bd (wt_lk2 26 24 q24.1 q61)
          have t66 : (wt_lk2 26 24 q24.1 q61).toInt = (wt_lk2 26 24 q24.1 s28.2).toInt := congrArg Int32.toInt (wt_lk2_fr (f63.2 26 (by (try dsimp only); omega)) (f63.2 24 (by (try dsimp only); omega)))
          refine hK27 _ ⟨(wt_fr.tr (wt_fr.tr wt_fr.rf l30 (fun i k h => h.elim) (fun i h => by (try dsimp only at h); exact (by omega))) f63 (fun i k h => h.elim) (fun i h => by (try dsimp only at h); exact (by omega))), (by (try dsimp only); omega)⟩ ?_
          (try dsimp only); omega
      · skip
        have b67 := wt_bd (wt_lk2 26 24 q24.1 s10.2)
        have t68 : (wt_lk2 26 24 q24.1 s10.2).toInt = (wt_lk2 26 24 q24.1 σ).toInt := congrArg Int32.toInt (wt_lk2_fr (l12.2 26 (by (try dsimp only); omega)) (l12.2 24 (by (try dsimp only); omega)))
        have b69 := wt_bd (wt_lk2 26 24 q24.1 σ)
        exact ⟨wt_fr.rf, (by (try dsimp only); omega)⟩
      · skip
        have b70 := wt_bd (wt_lk2 26 24 q24.1 s10.2)
        have t71 : (wt_lk2 26 24 q24.1 s10.2).toInt = (wt_lk2 26 24 q24.1 σ).toInt := congrArg Int32.toInt (wt_lk2_fr (l12.2 26 (by (try dsimp only); omega)) (l12.2 24 (by (try dsimp only); omega)))
        have b72 := wt_bd (wt_lk2 26 24 q24.1 σ)
        (try dsimp only); omega
  · skip
    exact wt_fr.rf
  · skip
    (try dsimp only); omega
set_option maxRecDepth 100000 in
set_option maxHeartbeats 4000000 in
theorem wq_ap_miss (n : Nat) (hn : 4294967297 < n) (x0 : Int32) (σ : wt_St) : wt_T (wp_ap_miss n x0 σ) (fun q => q.2.2 = σ ∧ (q.1 = 0 ∨ q.1 = 2)) := by
  unfold wp_ap_miss
  have b1 := wt_bd x0
  have k2 : (0 : Int32).toInt = 0 := by decide
  refine wt_T_if (fun h3 => ?_) (fun h3 => ?_)
  · skip
    have c4 := wt_ceq h3
    refine wt_T_some ?_
    exact ⟨rfl, Or.inl rfl⟩
  · skip
    have c5 := wt_nceq h3
    refine wt_T_some ?_
    exact ⟨rfl, Or.inr (rfl)⟩
set_option maxRecDepth 100000 in
set_option maxHeartbeats 4000000 in
theorem wq_ap_apart (n : Nat) (hn : 4294967297 < n) (x1 : Int32) (σ : wt_St) : wt_T (wp_ap_apart n x1 σ) (fun q => wt_fr (fun i k => False) (fun i => i = 43 ∨ i = 41) σ q.2.2 ∧ (q.1 = 0 ∨ q.1 = 2)) := by
  unfold wp_ap_apart
  have b1 := wt_bd n
  have b2 := wt_bd x1
  refine wt_T_bi (wq_pg_stands n hn x1 σ) (fun q3 h4 => ?_)
  have e5 := h4
  rw [e5]
  have b6 := wt_bd q3.1
  have k7 : (0 : Int32).toInt = 0 := by decide
  refine wt_T_if (fun h8 => ?_) (fun h8 => ?_)
  · skip
    have c9 := wt_ceq h8
    unfold wp_ap_apart_B16
    have k10 : (1 : Int32).toInt = 1 := by decide
    refine wt_T_bi (wq_ap_miss n hn (1 : Int32) σ) (fun q11 h12 => ?_)
    have e13 := h12
    rw [e13]
    have b14 := wt_bd q11.1
    refine wt_T_if (fun h15 => ?_) (fun h15 => ?_)
    · skip
      have c16 := wt_ceq h15
      refine wt_T_bi (wq_pg_piecesOn n hn x1 σ) (fun q17 h18 => ?_)
      have e19 := h18
      rw [e19]
      refine wt_T_bi (wq_st_clearPage n hn 39 x1 σ) (fun q20 h21 => ?_)
      have f22 := h21
      refine wt_T_some ?_
      exact ⟨(wt_fr.tr wt_fr.rf f22 (fun i k h => h.elim) (fun i h => by (try dsimp only at h); rcases h with h | h; exact Or.inl (by omega); exact Or.inr ((by omega)))), Or.inl rfl⟩
    · skip
      have c23 := wt_nceq h15
      refine wt_T_some ?_
      exact ⟨wt_fr.rf, (by (try dsimp only); omega)⟩
  · skip
    have c24 := wt_nceq h8
    unfold wp_ap_apart_B16
    refine wt_T_bi (wq_ap_miss n hn (0 : Int32) σ) (fun q25 h26 => ?_)
    have e27 := h26
    rw [e27]
    have b28 := wt_bd q25.1
    refine wt_T_if (fun h29 => ?_) (fun h29 => ?_)
    · skip
      have c30 := wt_ceq h29
      refine wt_T_bi (wq_pg_piecesOn n hn x1 σ) (fun q31 h32 => ?_)
      have e33 := h32
      rw [e33]
      refine wt_T_bi (wq_st_clearPage n hn 39 x1 σ) (fun q34 h35 => ?_)
      have f36 := h35
      refine wt_T_some ?_
      exact ⟨(wt_fr.tr wt_fr.rf f36 (fun i k h => h.elim) (fun i h => by (try dsimp only at h); rcases h with h | h; exact Or.inl (by omega); exact Or.inr ((by omega)))), Or.inl rfl⟩
    · skip
      have c37 := wt_nceq h29
      refine wt_T_some ?_
      exact ⟨wt_fr.rf, (by (try dsimp only); omega)⟩
set_option maxRecDepth 100000 in
set_option maxHeartbeats 4000000 in
theorem wq_ap_at (n : Nat) (hn : 4294967297 < n) (x1 : Int32) (x2 : Int32) (σ : wt_St) : wt_T (wp_ap_at n x1 x2 σ) (fun q => q.2.2 = σ ∧ (q.1 = 0 ∨ q.1 = 2)) := by
  unfold wp_ap_at
  have b1 := wt_bd n
  have b2 := wt_bd x1
  refine wt_T_bi (wq_tx_has n hn x1 σ) (fun q3 h4 => ?_)
  have e5 := h4
  rw [e5]
  have b6 := wt_bd q3.1
  have k7 : (0 : Int32).toInt = 0 := by decide
  refine wt_T_if (fun h8 => ?_) (fun h8 => ?_)
  · skip
    have c9 := wt_ceq h8
    unfold wp_ap_at_B16
    have k10 : (1 : Int32).toInt = 1 := by decide
    refine wt_T_bi (wq_ap_miss n hn (1 : Int32) σ) (fun q11 h12 => ?_)
    have e13 := h12
    rw [e13]
    have b14 := wt_bd q11.1
    refine wt_T_if (fun h15 => ?_) (fun h15 => ?_)
    · skip
      have c16 := wt_ceq h15
      have b17 := wt_bd x2
      refine wt_T_bi (wq_tx_wordAt n hn x1 x2 σ) (fun q18 h19 => ?_)
      have e20 := h19
      rw [e20]
      refine wt_T_some ?_
      exact ⟨rfl, Or.inl rfl⟩
    · skip
      have c21 := wt_nceq h15
      refine wt_T_some ?_
      exact ⟨rfl, (by (try dsimp only); omega)⟩
  · skip
    have c22 := wt_nceq h8
    unfold wp_ap_at_B16
    refine wt_T_bi (wq_ap_miss n hn (0 : Int32) σ) (fun q23 h24 => ?_)
    have e25 := h24
    rw [e25]
    have b26 := wt_bd q23.1
    refine wt_T_if (fun h27 => ?_) (fun h27 => ?_)
    · skip
      have c28 := wt_ceq h27
      have b29 := wt_bd x2
      refine wt_T_bi (wq_tx_wordAt n hn x1 x2 σ) (fun q30 h31 => ?_)
      have e32 := h31
      rw [e32]
      refine wt_T_some ?_
      exact ⟨rfl, Or.inl rfl⟩
    · skip
      have c33 := wt_nceq h27
      refine wt_T_some ?_
      exact ⟨rfl, (by (try dsimp only); omega)⟩
set_option maxRecDepth 100000 in
set_option maxHeartbeats 4000000 in
theorem wq_ap_can (n : Nat) (hn : 4294967297 < n) (x1 : Int32) (σ : wt_St) : wt_T (wp_ap_can n x1 σ) (fun q => wt_fr (fun i k => False) (fun i => i = 107) σ q.2.2 ∧ (q.1 = 0 ∨ q.1 = 2)) := by
  unfold wp_ap_can
  have b1 := wt_bd n
  have b2 := wt_bd x1
  refine wt_T_bi (wq_tx_has n hn x1 σ) (fun q3 h4 => ?_)
  have e5 := h4
  rw [e5]
  have b6 := wt_bd q3.1
  have k7 : (0 : Int32).toInt = 0 := by decide
  refine wt_T_if (fun h8 => ?_) (fun h8 => ?_)
  · skip
    have c9 := wt_ceq h8
    unfold wp_ap_can_B16
    have k10 : (1 : Int32).toInt = 1 := by decide
    refine wt_T_bi (wq_ap_miss n hn (1 : Int32) σ) (fun q11 h12 => ?_)
    have e13 := h12
    rw [e13]
    have b14 := wt_bd q11.1
    refine wt_T_if (fun h15 => ?_) (fun h15 => ?_)
    · skip
      have c16 := wt_ceq h15
      refine wt_T_bi (wq_tx_spell n hn 107 x1 σ) (fun q17 h18 => ?_)
      have f19 := h18
      refine wt_T_bi (wq_sk_often n hn 107 40 q17) (fun q20 h21 => ?_)
      have e22 := h21
      rw [e22]
      refine wt_T_some ?_
      exact ⟨(wt_fr.tr wt_fr.rf f19 (fun i k h => h.elim) (fun i h => by (try dsimp only at h); exact (by omega))), Or.inl rfl⟩
    · skip
      have c23 := wt_nceq h15
      refine wt_T_some ?_
      exact ⟨wt_fr.rf, (by (try dsimp only); omega)⟩
  · skip
    have c24 := wt_nceq h8
    unfold wp_ap_can_B16
    refine wt_T_bi (wq_ap_miss n hn (0 : Int32) σ) (fun q25 h26 => ?_)
    have e27 := h26
    rw [e27]
    have b28 := wt_bd q25.1
    refine wt_T_if (fun h29 => ?_) (fun h29 => ?_)
    · skip
      have c30 := wt_ceq h29
      refine wt_T_bi (wq_tx_spell n hn 107 x1 σ) (fun q31 h32 => ?_)
      have f33 := h32
      refine wt_T_bi (wq_sk_often n hn 107 40 q31) (fun q34 h35 => ?_)
      have e36 := h35
      rw [e36]
      refine wt_T_some ?_
      exact ⟨(wt_fr.tr wt_fr.rf f33 (fun i k h => h.elim) (fun i h => by (try dsimp only at h); exact (by omega))), Or.inl rfl⟩
    · skip
      have c37 := wt_nceq h29
      refine wt_T_some ?_
      exact ⟨wt_fr.rf, (by (try dsimp only); omega)⟩
set_option maxRecDepth 100000 in
set_option maxHeartbeats 4000000 in
theorem wq_ap_refuse (n : Nat) (hn : 4294967297 < n) (x0 : Int32) (σ : wt_St) : wt_T (wp_ap_refuse n x0 σ) (fun q => q.2.2 = σ ∧ (q.1 = 0 ∨ q.1 = 1)) := by
  unfold wp_ap_refuse
  have b1 := wt_bd x0
  have k2 : (0 : Int32).toInt = 0 := by decide
  refine wt_T_if (fun h3 => ?_) (fun h3 => ?_)
  · skip
    have c4 := wt_ceq h3
    refine wt_T_some ?_
    exact ⟨rfl, Or.inl rfl⟩
  · skip
    have c5 := wt_nceq h3
    refine wt_T_some ?_
    exact ⟨rfl, Or.inr (rfl)⟩
set_option maxRecDepth 100000 in
set_option maxHeartbeats 4000000 in
theorem wq_ap_refuseCopies (n : Nat) (hn : 4294967297 < n) (x0 : Int32) (σ : wt_St) : wt_T (wp_ap_refuseCopies n x0 σ) (fun q => q.2.2 = σ ∧ (q.1 = 0 ∨ q.1 = 1)) := by
  unfold wp_ap_refuseCopies
  have b1 := wt_bd x0
  have k2 : (1 : Int32).toInt = 1 := by decide
  refine wt_T_if (fun h3 => ?_) (fun h3 => ?_)
  · skip
    have c4 := wt_clt h3
    unfold wp_ap_refuseCopies_B12
    unfold wp_ap_refuseCopies_B17
    have b5 := wt_bd n
    refine wt_T_bi (wq_ap_refuse n hn (1 : Int32) σ) (fun q6 h7 => ?_)
    have e8 := h7
    rw [e8]
    have b9 := wt_bd q6.1
    have k10 : (0 : Int32).toInt = 0 := by decide
    refine wt_T_if (fun h11 => ?_) (fun h11 => ?_)
    · skip
      have c12 := wt_ceq h11
      refine wt_T_some ?_
      exact ⟨rfl, Or.inl rfl⟩
    · skip
      have c13 := wt_nceq h11
      refine wt_T_some ?_
      exact ⟨rfl, (by (try dsimp only); omega)⟩
  · skip
    have c14 := wt_ncl h3
    have k15 : (400 : Int32).toInt = 400 := by decide
    refine wt_T_if (fun h16 => ?_) (fun h16 => ?_)
    · skip
      have c17 := wt_cle h16
      unfold wp_ap_refuseCopies_B17
      have b18 := wt_bd n
      have k19 : (0 : Int32).toInt = 0 := by decide
      refine wt_T_bi (wq_ap_refuse n hn (0 : Int32) σ) (fun q20 h21 => ?_)
      have e22 := h21
      rw [e22]
      have b23 := wt_bd q20.1
      refine wt_T_if (fun h24 => ?_) (fun h24 => ?_)
      · skip
        have c25 := wt_ceq h24
        refine wt_T_some ?_
        exact ⟨rfl, Or.inl rfl⟩
      · skip
        have c26 := wt_nceq h24
        refine wt_T_some ?_
        exact ⟨rfl, (by (try dsimp only); omega)⟩
    · skip
      have c27 := wt_ncle h16
      unfold wp_ap_refuseCopies_B12
      unfold wp_ap_refuseCopies_B17
      have b28 := wt_bd n
      refine wt_T_bi (wq_ap_refuse n hn (1 : Int32) σ) (fun q29 h30 => ?_)
      have e31 := h30
      rw [e31]
      have b32 := wt_bd q29.1
      have k33 : (0 : Int32).toInt = 0 := by decide
      refine wt_T_if (fun h34 => ?_) (fun h34 => ?_)
      · skip
        have c35 := wt_ceq h34
        refine wt_T_some ?_
        exact ⟨rfl, Or.inl rfl⟩
      · skip
        have c36 := wt_nceq h34
        refine wt_T_some ?_
        exact ⟨rfl, (by (try dsimp only); omega)⟩
set_option maxRecDepth 100000 in
set_option maxHeartbeats 4000000 in
theorem wq_ap_cast (n : Nat) (hn : 4294967297 < n) (x1 : Int32) (x2 : Int32) (σ : wt_St) : wt_T (wp_ap_cast n x1 x2 σ) (fun q => wt_fr (fun i k => False) (fun i => i = 102 ∨ i = 103 ∨ i = 104 ∨ i = 105) σ q.2.2 ∧ (q.1 = 0 ∨ q.1 = 1 ∨ q.1 = 2)) := by
  unfold wp_ap_cast
  have b1 := wt_bd n
  have b2 := wt_bd x1
  refine wt_T_bi (wq_tx_has n hn x1 σ) (fun q3 h4 => ?_)
  have e5 := h4
  rw [e5]
  have b6 := wt_bd q3.1
  have k7 : (0 : Int32).toInt = 0 := by decide
  refine wt_T_if (fun h8 => ?_) (fun h8 => ?_)
  · skip
    have c9 := wt_ceq h8
    unfold wp_ap_cast_B16
    have k10 : (1 : Int32).toInt = 1 := by decide
    refine wt_T_bi (wq_ap_miss n hn (1 : Int32) σ) (fun q11 h12 => ?_)
    have e13 := h12
    rw [e13]
    have b14 := wt_bd q11.1
    refine wt_T_if (fun h15 => ?_) (fun h15 => ?_)
    · skip
      have c16 := wt_ceq h15
      have b17 := wt_bd x2
      refine wt_T_bi (wq_ap_refuseCopies n hn x2 σ) (fun q18 h19 => ?_)
      have e20 := h19
      rw [e20]
      have b21 := wt_bd q18.1
      refine wt_T_if (fun h22 => ?_) (fun h22 => ?_)
      · skip
        have c23 := wt_ceq h22
        refine wt_T_bi (wq_tr_bestCast n hn x1 x2 σ) (fun q24 h25 => ?_)
        have f26 := h25
        refine wt_T_some ?_
        exact ⟨(wt_fr.tr wt_fr.rf f26 (fun i k h => h.elim) (fun i h => by (try dsimp only at h); rcases h with h | h | h | h; exact Or.inl (by omega); exact Or.inr (Or.inl (by omega)); exact Or.inr (Or.inr (Or.inl (by omega))); exact Or.inr (Or.inr (Or.inr ((by omega)))))), Or.inl rfl⟩
      · skip
        have c27 := wt_nceq h22
        refine wt_T_some ?_
        exact ⟨wt_fr.rf, (by (try dsimp only); omega)⟩
    · skip
      have c28 := wt_nceq h15
      refine wt_T_some ?_
      exact ⟨wt_fr.rf, (by (try dsimp only); omega)⟩
  · skip
    have c29 := wt_nceq h8
    unfold wp_ap_cast_B16
    refine wt_T_bi (wq_ap_miss n hn (0 : Int32) σ) (fun q30 h31 => ?_)
    have e32 := h31
    rw [e32]
    have b33 := wt_bd q30.1
    refine wt_T_if (fun h34 => ?_) (fun h34 => ?_)
    · skip
      have c35 := wt_ceq h34
      have b36 := wt_bd x2
      refine wt_T_bi (wq_ap_refuseCopies n hn x2 σ) (fun q37 h38 => ?_)
      have e39 := h38
      rw [e39]
      have b40 := wt_bd q37.1
      refine wt_T_if (fun h41 => ?_) (fun h41 => ?_)
      · skip
        have c42 := wt_ceq h41
        refine wt_T_bi (wq_tr_bestCast n hn x1 x2 σ) (fun q43 h44 => ?_)
        have f45 := h44
        refine wt_T_some ?_
        exact ⟨(wt_fr.tr wt_fr.rf f45 (fun i k h => h.elim) (fun i h => by (try dsimp only at h); rcases h with h | h | h | h; exact Or.inl (by omega); exact Or.inr (Or.inl (by omega)); exact Or.inr (Or.inr (Or.inl (by omega))); exact Or.inr (Or.inr (Or.inr ((by omega)))))), Or.inl rfl⟩
      · skip
        have c46 := wt_nceq h41
        refine wt_T_some ?_
        exact ⟨wt_fr.rf, (by (try dsimp only); omega)⟩
    · skip
      have c47 := wt_nceq h34
      refine wt_T_some ?_
      exact ⟨wt_fr.rf, (by (try dsimp only); omega)⟩
set_option maxRecDepth 100000 in
set_option maxHeartbeats 4000000 in
theorem wq_ap_ends (n : Nat) (hn : 4294967297 < n) (x1 : Int32) (σ : wt_St) : wt_T (wp_ap_ends n x1 σ) (fun q => wt_fr (fun i k => (i = 86 ∧ k = 8) ∨ (i = 86 ∧ k = 9)) (fun i => i = 99 ∨ i = 98 ∨ i = 100) σ q.2.2 ∧ (q.1 = 0 ∨ q.1 = 2)) := by
  unfold wp_ap_ends
  have b1 := wt_bd n
  have b2 := wt_bd x1
  refine wt_T_bi (wq_tg_has n hn 20 x1 σ) (fun q3 h4 => ?_)
  have e5 := h4
  rw [e5]
  have b6 := wt_bd q3.1
  have k7 : (0 : Int32).toInt = 0 := by decide
  refine wt_T_if (fun h8 => ?_) (fun h8 => ?_)
  · skip
    have c9 := wt_ceq h8
    unfold wp_ap_ends_B16
    have k10 : (1 : Int32).toInt = 1 := by decide
    refine wt_T_bi (wq_ap_miss n hn (1 : Int32) σ) (fun q11 h12 => ?_)
    have e13 := h12
    rw [e13]
    have b14 := wt_bd q11.1
    refine wt_T_if (fun h15 => ?_) (fun h15 => ?_)
    · skip
      have c16 := wt_ceq h15
      refine wt_T_bi (wq_wk_firstLost n hn x1 σ) (fun q17 h18 => ?_)
      have f19 := h18
      refine wt_T_some ?_
      exact ⟨(wt_fr.tr wt_fr.rf f19 (fun i k h => by (try dsimp only at h); rcases h with h | h; exact Or.inl (by omega); exact Or.inr ((by omega))) (fun i h => by (try dsimp only at h); rcases h with h | h | h; exact Or.inl (by omega); exact Or.inr (Or.inl (by omega)); exact Or.inr (Or.inr ((by omega))))), Or.inl rfl⟩
    · skip
      have c20 := wt_nceq h15
      refine wt_T_some ?_
      exact ⟨wt_fr.rf, (by (try dsimp only); omega)⟩
  · skip
    have c21 := wt_nceq h8
    unfold wp_ap_ends_B16
    refine wt_T_bi (wq_ap_miss n hn (0 : Int32) σ) (fun q22 h23 => ?_)
    have e24 := h23
    rw [e24]
    have b25 := wt_bd q22.1
    refine wt_T_if (fun h26 => ?_) (fun h26 => ?_)
    · skip
      have c27 := wt_ceq h26
      refine wt_T_bi (wq_wk_firstLost n hn x1 σ) (fun q28 h29 => ?_)
      have f30 := h29
      refine wt_T_some ?_
      exact ⟨(wt_fr.tr wt_fr.rf f30 (fun i k h => by (try dsimp only at h); rcases h with h | h; exact Or.inl (by omega); exact Or.inr ((by omega))) (fun i h => by (try dsimp only at h); rcases h with h | h | h; exact Or.inl (by omega); exact Or.inr (Or.inl (by omega)); exact Or.inr (Or.inr ((by omega))))), Or.inl rfl⟩
    · skip
      have c31 := wt_nceq h26
      refine wt_T_some ?_
      exact ⟨wt_fr.rf, (by (try dsimp only); omega)⟩
set_option maxRecDepth 100000 in
set_option maxHeartbeats 4000000 in
theorem wq_ap_exchange (n : Nat) (hn : 4294967297 < n) (x1 : Int32) (σ : wt_St) : wt_T (wp_ap_exchange n x1 σ) (fun q => wt_fr (fun i k => False) (fun i => i = 102 ∨ i = 103 ∨ i = 104 ∨ i = 105) σ q.2.2 ∧ (q.1 = 0 ∨ q.1 = 2)) := by
  unfold wp_ap_exchange
  have b1 := wt_bd n
  have b2 := wt_bd x1
  refine wt_T_bi (wq_tx_has n hn x1 σ) (fun q3 h4 => ?_)
  have e5 := h4
  rw [e5]
  have b6 := wt_bd q3.1
  have k7 : (0 : Int32).toInt = 0 := by decide
  refine wt_T_if (fun h8 => ?_) (fun h8 => ?_)
  · skip
    have c9 := wt_ceq h8
    unfold wp_ap_exchange_B16
    have k10 : (1 : Int32).toInt = 1 := by decide
    refine wt_T_bi (wq_ap_miss n hn (1 : Int32) σ) (fun q11 h12 => ?_)
    have e13 := h12
    rw [e13]
    have b14 := wt_bd q11.1
    refine wt_T_if (fun h15 => ?_) (fun h15 => ?_)
    · skip
      have c16 := wt_ceq h15
      refine wt_T_bi (wq_tr_bestExchange n hn x1 σ) (fun q17 h18 => ?_)
      have f19 := h18
      refine wt_T_some ?_
      exact ⟨(wt_fr.tr wt_fr.rf f19 (fun i k h => h.elim) (fun i h => by (try dsimp only at h); rcases h with h | h | h | h; exact Or.inl (by omega); exact Or.inr (Or.inl (by omega)); exact Or.inr (Or.inr (Or.inl (by omega))); exact Or.inr (Or.inr (Or.inr ((by omega)))))), Or.inl rfl⟩
    · skip
      have c20 := wt_nceq h15
      refine wt_T_some ?_
      exact ⟨wt_fr.rf, (by (try dsimp only); omega)⟩
  · skip
    have c21 := wt_nceq h8
    unfold wp_ap_exchange_B16
    refine wt_T_bi (wq_ap_miss n hn (0 : Int32) σ) (fun q22 h23 => ?_)
    have e24 := h23
    rw [e24]
    have b25 := wt_bd q22.1
    refine wt_T_if (fun h26 => ?_) (fun h26 => ?_)
    · skip
      have c27 := wt_ceq h26
      refine wt_T_bi (wq_tr_bestExchange n hn x1 σ) (fun q28 h29 => ?_)
      have f30 := h29
      refine wt_T_some ?_
      exact ⟨(wt_fr.tr wt_fr.rf f30 (fun i k h => h.elim) (fun i h => by (try dsimp only at h); rcases h with h | h | h | h; exact Or.inl (by omega); exact Or.inr (Or.inl (by omega)); exact Or.inr (Or.inr (Or.inl (by omega))); exact Or.inr (Or.inr (Or.inr ((by omega)))))), Or.inl rfl⟩
    · skip
      have c31 := wt_nceq h26
      refine wt_T_some ?_
      exact ⟨wt_fr.rf, (by (try dsimp only); omega)⟩
set_option maxRecDepth 100000 in
set_option maxHeartbeats 4000000 in
theorem wq_ap_greedy (n : Nat) (hn : 4294967297 < n) (x1 : Int32) (σ : wt_St) : wt_T (wp_ap_greedy n x1 σ) (fun q => wt_fr (fun i k => (i = 86 ∧ k = 8) ∨ (i = 86 ∧ k = 9)) (fun i => i = 99 ∨ i = 98 ∨ i = 100) σ q.2.2 ∧ (q.1 = 0 ∨ q.1 = 1)) := by
  unfold wp_ap_greedy
  have b1 := wt_bd x1
  have k2 : (0 : Int32).toInt = 0 := by decide
  refine wt_T_if (fun h3 => ?_) (fun h3 => ?_)
  · skip
    have c4 := wt_clt h3
    unfold wp_ap_greedy_B9
    unfold wp_ap_greedy_B14
    have b5 := wt_bd n
    have k6 : (1 : Int32).toInt = 1 := by decide
    refine wt_T_bi (wq_ap_refuse n hn (1 : Int32) σ) (fun q7 h8 => ?_)
    have e9 := h8
    rw [e9]
    have b10 := wt_bd q7.1
    refine wt_T_if (fun h11 => ?_) (fun h11 => ?_)
    · skip
      have c12 := wt_ceq h11
      have k13 : (100 : Int32).toInt = 100 := by decide
      refine wt_T_bi (wq_wk_printGreedily n hn (100 : Int32) σ) (fun q14 h15 => ?_)
      have f16 := h15
      refine wt_T_if (fun h17 => ?_) (fun h17 => ?_)
      · skip
        have c18 := wt_ceq h17
        refine wt_T_some ?_
        exact ⟨(wt_fr.tr wt_fr.rf f16 (fun i k h => by (try dsimp only at h); rcases h with h | h; exact Or.inl (by omega); exact Or.inr ((by omega))) (fun i h => by (try dsimp only at h); rcases h with h | h | h; exact Or.inl (by omega); exact Or.inr (Or.inl (by omega)); exact Or.inr (Or.inr ((by omega))))), Or.inl rfl⟩
      · skip
        have c19 := wt_nceq h17
        refine wt_T_some ?_
        exact ⟨(wt_fr.tr wt_fr.rf f16 (fun i k h => by (try dsimp only at h); rcases h with h | h; exact Or.inl (by omega); exact Or.inr ((by omega))) (fun i h => by (try dsimp only at h); rcases h with h | h | h; exact Or.inl (by omega); exact Or.inr (Or.inl (by omega)); exact Or.inr (Or.inr ((by omega))))), Or.inl rfl⟩
    · skip
      have c20 := wt_nceq h11
      refine wt_T_some ?_
      exact ⟨wt_fr.rf, (by (try dsimp only); omega)⟩
  · skip
    have c21 := wt_ncl h3
    have k22 : (1 : Int32).toInt = 1 := by decide
    refine wt_T_if (fun h23 => ?_) (fun h23 => ?_)
    · skip
      have c24 := wt_cle h23
      unfold wp_ap_greedy_B14
      have b25 := wt_bd n
      refine wt_T_bi (wq_ap_refuse n hn (0 : Int32) σ) (fun q26 h27 => ?_)
      have e28 := h27
      rw [e28]
      have b29 := wt_bd q26.1
      refine wt_T_if (fun h30 => ?_) (fun h30 => ?_)
      · skip
        have c31 := wt_ceq h30
        have k32 : (100 : Int32).toInt = 100 := by decide
        refine wt_T_bi (wq_wk_printGreedily n hn (100 : Int32) σ) (fun q33 h34 => ?_)
        have f35 := h34
        refine wt_T_if (fun h36 => ?_) (fun h36 => ?_)
        · skip
          have c37 := wt_ceq h36
          refine wt_T_some ?_
          exact ⟨(wt_fr.tr wt_fr.rf f35 (fun i k h => by (try dsimp only at h); rcases h with h | h; exact Or.inl (by omega); exact Or.inr ((by omega))) (fun i h => by (try dsimp only at h); rcases h with h | h | h; exact Or.inl (by omega); exact Or.inr (Or.inl (by omega)); exact Or.inr (Or.inr ((by omega))))), Or.inl rfl⟩
        · skip
          have c38 := wt_nceq h36
          refine wt_T_some ?_
          exact ⟨(wt_fr.tr wt_fr.rf f35 (fun i k h => by (try dsimp only at h); rcases h with h | h; exact Or.inl (by omega); exact Or.inr ((by omega))) (fun i h => by (try dsimp only at h); rcases h with h | h | h; exact Or.inl (by omega); exact Or.inr (Or.inl (by omega)); exact Or.inr (Or.inr ((by omega))))), Or.inl rfl⟩
      · skip
        have c39 := wt_nceq h30
        refine wt_T_some ?_
        exact ⟨wt_fr.rf, (by (try dsimp only); omega)⟩
    · skip
      have c40 := wt_ncle h23
      unfold wp_ap_greedy_B9
      unfold wp_ap_greedy_B14
      have b41 := wt_bd n
      refine wt_T_bi (wq_ap_refuse n hn (1 : Int32) σ) (fun q42 h43 => ?_)
      have e44 := h43
      rw [e44]
      have b45 := wt_bd q42.1
      refine wt_T_if (fun h46 => ?_) (fun h46 => ?_)
      · skip
        have c47 := wt_ceq h46
        have k48 : (100 : Int32).toInt = 100 := by decide
        refine wt_T_bi (wq_wk_printGreedily n hn (100 : Int32) σ) (fun q49 h50 => ?_)
        have f51 := h50
        refine wt_T_if (fun h52 => ?_) (fun h52 => ?_)
        · skip
          have c53 := wt_ceq h52
          refine wt_T_some ?_
          exact ⟨(wt_fr.tr wt_fr.rf f51 (fun i k h => by (try dsimp only at h); rcases h with h | h; exact Or.inl (by omega); exact Or.inr ((by omega))) (fun i h => by (try dsimp only at h); rcases h with h | h | h; exact Or.inl (by omega); exact Or.inr (Or.inl (by omega)); exact Or.inr (Or.inr ((by omega))))), Or.inl rfl⟩
        · skip
          have c54 := wt_nceq h52
          refine wt_T_some ?_
          exact ⟨(wt_fr.tr wt_fr.rf f51 (fun i k h => by (try dsimp only at h); rcases h with h | h; exact Or.inl (by omega); exact Or.inr ((by omega))) (fun i h => by (try dsimp only at h); rcases h with h | h | h; exact Or.inl (by omega); exact Or.inr (Or.inl (by omega)); exact Or.inr (Or.inr ((by omega))))), Or.inl rfl⟩
      · skip
        have c55 := wt_nceq h46
        refine wt_T_some ?_
        exact ⟨wt_fr.rf, (by (try dsimp only); omega)⟩
set_option maxRecDepth 100000 in
set_option maxHeartbeats 4000000 in
theorem wq_ap_habit (n : Nat) (hn : 4294967297 < n) (x1 : Int32) (σ : wt_St) : wt_T (wp_ap_habit n x1 σ) (fun q => wt_fr (fun i k => (i = 39 ∧ k = 9)) (fun i => False) σ q.2.2 ∧ (q.1 = 0 ∨ q.1 = 1)) := by
  unfold wp_ap_habit
  have b1 := wt_bd x1
  have k2 : (0 : Int32).toInt = 0 := by decide
  refine wt_T_if (fun h3 => ?_) (fun h3 => ?_)
  · skip
    have c4 := wt_clt h3
    unfold wp_ap_habit_B9
    unfold wp_ap_habit_B14
    have b5 := wt_bd n
    have k6 : (1 : Int32).toInt = 1 := by decide
    refine wt_T_bi (wq_ap_refuse n hn (1 : Int32) σ) (fun q7 h8 => ?_)
    have e9 := h8
    rw [e9]
    have b10 := wt_bd q7.1
    refine wt_T_if (fun h11 => ?_) (fun h11 => ?_)
    · skip
      have c12 := wt_ceq h11
      obtain ⟨σ13, eσ13⟩ : ∃ z : wt_St, z = wt_sf σ 39 9 x1 := ⟨_, rfl⟩
      rw [← eσ13]
      have fσ13 := wt_fr_sf eσ13
      have vσ13 := wt_ceq (wt_v_sf eσ13)
      refine wt_T_some ?_
      exact ⟨(wt_fr.tr wt_fr.rf fσ13 (fun i k h => by (try dsimp only at h); exact (by omega)) (fun i h => h.elim)), Or.inl rfl⟩
    · skip
      have c14 := wt_nceq h11
      refine wt_T_some ?_
      exact ⟨wt_fr.rf, (by (try dsimp only); omega)⟩
  · skip
    have c15 := wt_ncl h3
    have k16 : (2 : Int32).toInt = 2 := by decide
    refine wt_T_if (fun h17 => ?_) (fun h17 => ?_)
    · skip
      have c18 := wt_clt h17
      unfold wp_ap_habit_B14
      have b19 := wt_bd n
      refine wt_T_bi (wq_ap_refuse n hn (0 : Int32) σ) (fun q20 h21 => ?_)
      have e22 := h21
      rw [e22]
      have b23 := wt_bd q20.1
      refine wt_T_if (fun h24 => ?_) (fun h24 => ?_)
      · skip
        have c25 := wt_ceq h24
        obtain ⟨σ26, eσ26⟩ : ∃ z : wt_St, z = wt_sf σ 39 9 x1 := ⟨_, rfl⟩
        rw [← eσ26]
        have fσ26 := wt_fr_sf eσ26
        have vσ26 := wt_ceq (wt_v_sf eσ26)
        refine wt_T_some ?_
        exact ⟨(wt_fr.tr wt_fr.rf fσ26 (fun i k h => by (try dsimp only at h); exact (by omega)) (fun i h => h.elim)), Or.inl rfl⟩
      · skip
        have c27 := wt_nceq h24
        refine wt_T_some ?_
        exact ⟨wt_fr.rf, (by (try dsimp only); omega)⟩
    · skip
      have c28 := wt_ncl h17
      unfold wp_ap_habit_B9
      unfold wp_ap_habit_B14
      have b29 := wt_bd n
      have k30 : (1 : Int32).toInt = 1 := by decide
      refine wt_T_bi (wq_ap_refuse n hn (1 : Int32) σ) (fun q31 h32 => ?_)
      have e33 := h32
      rw [e33]
      have b34 := wt_bd q31.1
      refine wt_T_if (fun h35 => ?_) (fun h35 => ?_)
      · skip
        have c36 := wt_ceq h35
        obtain ⟨σ37, eσ37⟩ : ∃ z : wt_St, z = wt_sf σ 39 9 x1 := ⟨_, rfl⟩
        rw [← eσ37]
        have fσ37 := wt_fr_sf eσ37
        have vσ37 := wt_ceq (wt_v_sf eσ37)
        refine wt_T_some ?_
        exact ⟨(wt_fr.tr wt_fr.rf fσ37 (fun i k h => by (try dsimp only at h); exact (by omega)) (fun i h => h.elim)), Or.inl rfl⟩
      · skip
        have c38 := wt_nceq h35
        refine wt_T_some ?_
        exact ⟨wt_fr.rf, (by (try dsimp only); omega)⟩
set_option maxRecDepth 100000 in
set_option maxHeartbeats 4000000 in
theorem wq_ap_kase (n : Nat) (hn : 4294967297 < n) (x1 : Int32) (σ : wt_St) : wt_T (wp_ap_kase n x1 σ) (fun q => wt_fr (fun i k => (i = 1 ∧ k = 2) ∨ (i = 1 ∧ k = 3) ∨ (i = 1 ∧ k = 4) ∨ (i = 1 ∧ k = 5) ∨ (i = 1 ∧ k = 6) ∨ (i = 1 ∧ k = 7) ∨ (i = 12 ∧ k = 7) ∨ (i = 4 ∧ k = 7) ∨ (i = 0 ∧ k = 14)) (fun i => i = 13 ∨ i = 14 ∨ i = 15 ∨ i = 16 ∨ i = 17 ∨ i = 18 ∨ i = 19 ∨ i = 3 ∨ i = 5 ∨ i = 6 ∨ i = 7 ∨ i = 8 ∨ i = 9 ∨ i = 10 ∨ i = 11 ∨ i = 40 ∨ i = 41 ∨ i = 43) σ q.2.2 ∧ (q.1 = 0 ∨ q.1 = 1)) := by
  unfold wp_ap_kase
  have b1 := wt_bd x1
  have k2 : (0 : Int32).toInt = 0 := by decide
  refine wt_T_if (fun h3 => ?_) (fun h3 => ?_)
  · skip
    have c4 := wt_clt h3
    unfold wp_ap_kase_B15
    unfold wp_ap_kase_B20
    have b5 := wt_bd n
    have k6 : (1 : Int32).toInt = 1 := by decide
    refine wt_T_bi (wq_ap_refuse n hn (1 : Int32) σ) (fun q7 h8 => ?_)
    have e9 := h8
    rw [e9]
    have b10 := wt_bd q7.1
    refine wt_T_if (fun h11 => ?_) (fun h11 => ?_)
    · skip
      have c12 := wt_ceq h11
      refine wt_T_bi (wq_tp_begin n hn x1 σ) (fun q13 h14 => ?_)
      have f15 := h14
      refine wt_T_bi (wq_ld_fill n hn 12 q13) (fun q16 h17 => ?_)
      have f18 := h17
      have b19 := wt_bd q16.1
      refine wt_T_if (fun h20 => ?_) (fun h20 => ?_)
      · skip
        have c21 := wt_ceq h20
        refine wt_T_some ?_
        exact ⟨(wt_fr.tr (wt_fr.tr wt_fr.rf f15 (fun i k h => by (try dsimp only at h); rcases h with h | h | h | h | h | h; exact Or.inl (by omega); exact Or.inr (Or.inl (by omega)); exact Or.inr (Or.inr (Or.inl (by omega))); exact Or.inr (Or.inr (Or.inr (Or.inl (by omega)))); exact Or.inr (Or.inr (Or.inr (Or.inr (Or.inl (by omega))))); exact Or.inr (Or.inr (Or.inr (Or.inr (Or.inr (Or.inl (by omega))))))) (fun i h => h.elim)) f18 (fun i k h => by (try dsimp only at h); rcases h with h | h | h | h | h; exact Or.inr (Or.inr (Or.inr (Or.inr (Or.inr (Or.inr (Or.inl (by omega))))))); exact Or.inr (Or.inr (Or.inr (Or.inl (by omega)))); exact Or.inr (Or.inr (Or.inl (by omega))); exact Or.inr (Or.inr (Or.inr (Or.inr (Or.inl (by omega))))); exact Or.inr (Or.inr (Or.inr (Or.inr (Or.inr (Or.inl (by omega))))))) (fun i h => by (try dsimp only at h); rcases h with h | h | h | h | h | h | h | h; exact Or.inl (by omega); exact Or.inr (Or.inl (by omega)); exact Or.inr (Or.inr (Or.inl (by omega))); exact Or.inr (Or.inr (Or.inr (Or.inl (by omega)))); exact Or.inr (Or.inr (Or.inr (Or.inr (Or.inl (by omega))))); exact Or.inr (Or.inr (Or.inr (Or.inr (Or.inr (Or.inl (by omega)))))); exact Or.inr (Or.inr (Or.inr (Or.inr (Or.inr (Or.inr (Or.inl (by omega))))))); exact Or.inr (Or.inr (Or.inr (Or.inr (Or.inr (Or.inr (Or.inr (Or.inl (by omega)))))))))), Or.inl rfl⟩
      · skip
        have c22 := wt_nceq h20
        refine wt_T_bi (wq_ld_become n hn 4 12 q16.2) (fun q23 h24 => ?_)
        have f25 := h24
        refine wt_T_bi (wq_st_lay n hn 39 4 q23) (fun q26 h27 => ?_)
        have f28 := h27
        obtain ⟨σ29, eσ29⟩ : ∃ z : wt_St, z = wt_sf q26 0 14 (0 : Int32) := ⟨_, rfl⟩
        rw [← eσ29]
        have fσ29 := wt_fr_sf eσ29
        have vσ29 := wt_ceq (wt_v_sf eσ29)
        refine wt_T_bi (wq_sk_piecesOfAll n hn σ29) (fun q30 h31 => ?_)
        have e32 := h31
        rw [e32]
        refine wt_T_some ?_
        exact ⟨(wt_fr.tr (wt_fr.tr (wt_fr.tr (wt_fr.tr (wt_fr.tr wt_fr.rf f15 (fun i k h => by (try dsimp only at h); rcases h with h | h | h | h | h | h; exact Or.inl (by omega); exact Or.inr (Or.inl (by omega)); exact Or.inr (Or.inr (Or.inl (by omega))); exact Or.inr (Or.inr (Or.inr (Or.inl (by omega)))); exact Or.inr (Or.inr (Or.inr (Or.inr (Or.inl (by omega))))); exact Or.inr (Or.inr (Or.inr (Or.inr (Or.inr (Or.inl (by omega))))))) (fun i h => h.elim)) f18 (fun i k h => by (try dsimp only at h); rcases h with h | h | h | h | h; exact Or.inr (Or.inr (Or.inr (Or.inr (Or.inr (Or.inr (Or.inl (by omega))))))); exact Or.inr (Or.inr (Or.inr (Or.inl (by omega)))); exact Or.inr (Or.inr (Or.inl (by omega))); exact Or.inr (Or.inr (Or.inr (Or.inr (Or.inl (by omega))))); exact Or.inr (Or.inr (Or.inr (Or.inr (Or.inr (Or.inl (by omega))))))) (fun i h => by (try dsimp only at h); rcases h with h | h | h | h | h | h | h | h; exact Or.inl (by omega); exact Or.inr (Or.inl (by omega)); exact Or.inr (Or.inr (Or.inl (by omega))); exact Or.inr (Or.inr (Or.inr (Or.inl (by omega)))); exact Or.inr (Or.inr (Or.inr (Or.inr (Or.inl (by omega))))); exact Or.inr (Or.inr (Or.inr (Or.inr (Or.inr (Or.inl (by omega)))))); exact Or.inr (Or.inr (Or.inr (Or.inr (Or.inr (Or.inr (Or.inl (by omega))))))); exact Or.inr (Or.inr (Or.inr (Or.inr (Or.inr (Or.inr (Or.inr (Or.inl (by omega)))))))))) f25 (fun i k h => by (try dsimp only at h); exact Or.inr (Or.inr (Or.inr (Or.inr (Or.inr (Or.inr (Or.inr (Or.inl (by omega))))))))) (fun i h => by (try dsimp only at h); rcases h with h | h | h | h | h | h | h; exact Or.inr (Or.inr (Or.inr (Or.inr (Or.inr (Or.inr (Or.inr (Or.inr (Or.inl (by omega))))))))); exact Or.inr (Or.inr (Or.inr (Or.inr (Or.inr (Or.inr (Or.inr (Or.inr (Or.inr (Or.inl (by omega)))))))))); exact Or.inr (Or.inr (Or.inr (Or.inr (Or.inr (Or.inr (Or.inr (Or.inr (Or.inr (Or.inr (Or.inl (by omega))))))))))); exact Or.inr (Or.inr (Or.inr (Or.inr (Or.inr (Or.inr (Or.inr (Or.inr (Or.inr (Or.inr (Or.inr (Or.inl (by omega)))))))))))); exact Or.inr (Or.inr (Or.inr (Or.inr (Or.inr (Or.inr (Or.inr (Or.inr (Or.inr (Or.inr (Or.inr (Or.inr (Or.inl (by omega))))))))))))); exact Or.inr (Or.inr (Or.inr (Or.inr (Or.inr (Or.inr (Or.inr (Or.inr (Or.inr (Or.inr (Or.inr (Or.inr (Or.inr (Or.inl (by omega)))))))))))))); exact Or.inr (Or.inr (Or.inr (Or.inr (Or.inr (Or.inr (Or.inr (Or.inr (Or.inr (Or.inr (Or.inr (Or.inr (Or.inr (Or.inr (Or.inl (by omega))))))))))))))))) f28 (fun i k h => h.elim) (fun i h => by (try dsimp only at h); rcases h with h | h | h; exact Or.inr (Or.inr (Or.inr (Or.inr (Or.inr (Or.inr (Or.inr (Or.inr (Or.inr (Or.inr (Or.inr (Or.inr (Or.inr (Or.inr (Or.inr (Or.inl (by omega)))))))))))))))); exact Or.inr (Or.inr (Or.inr (Or.inr (Or.inr (Or.inr (Or.inr (Or.inr (Or.inr (Or.inr (Or.inr (Or.inr (Or.inr (Or.inr (Or.inr (Or.inr (Or.inl (by omega))))))))))))))))); exact Or.inr (Or.inr (Or.inr (Or.inr (Or.inr (Or.inr (Or.inr (Or.inr (Or.inr (Or.inr (Or.inr (Or.inr (Or.inr (Or.inr (Or.inr (Or.inr (Or.inr ((by omega)))))))))))))))))))) fσ29 (fun i k h => by (try dsimp only at h); exact Or.inr (Or.inr (Or.inr (Or.inr (Or.inr (Or.inr (Or.inr (Or.inr ((by omega)))))))))) (fun i h => h.elim)), Or.inl rfl⟩
    · skip
      have c33 := wt_nceq h11
      refine wt_T_some ?_
      exact ⟨wt_fr.rf, (by (try dsimp only); omega)⟩
  · skip
    have c34 := wt_ncl h3
    have b35 := wt_bd (wt_gf σ 1 2)
    refine wt_T_if (fun h36 => ?_) (fun h36 => ?_)
    · skip
      have c37 := wt_cle h36
      unfold wp_ap_kase_B20
      have b38 := wt_bd n
      refine wt_T_bi (wq_ap_refuse n hn (0 : Int32) σ) (fun q39 h40 => ?_)
      have e41 := h40
      rw [e41]
      have b42 := wt_bd q39.1
      refine wt_T_if (fun h43 => ?_) (fun h43 => ?_)
      · skip
        have c44 := wt_ceq h43
        refine wt_T_bi (wq_tp_begin n hn x1 σ) (fun q45 h46 => ?_)
        have f47 := h46
        refine wt_T_bi (wq_ld_fill n hn 12 q45) (fun q48 h49 => ?_)
        have f50 := h49
        have b51 := wt_bd q48.1
        refine wt_T_if (fun h52 => ?_) (fun h52 => ?_)
        · skip
          have c53 := wt_ceq h52
          refine wt_T_some ?_
          exact ⟨(wt_fr.tr (wt_fr.tr wt_fr.rf f47 (fun i k h => by (try dsimp only at h); rcases h with h | h | h | h | h | h; exact Or.inl (by omega); exact Or.inr (Or.inl (by omega)); exact Or.inr (Or.inr (Or.inl (by omega))); exact Or.inr (Or.inr (Or.inr (Or.inl (by omega)))); exact Or.inr (Or.inr (Or.inr (Or.inr (Or.inl (by omega))))); exact Or.inr (Or.inr (Or.inr (Or.inr (Or.inr (Or.inl (by omega))))))) (fun i h => h.elim)) f50 (fun i k h => by (try dsimp only at h); rcases h with h | h | h | h | h; exact Or.inr (Or.inr (Or.inr (Or.inr (Or.inr (Or.inr (Or.inl (by omega))))))); exact Or.inr (Or.inr (Or.inr (Or.inl (by omega)))); exact Or.inr (Or.inr (Or.inl (by omega))); exact Or.inr (Or.inr (Or.inr (Or.inr (Or.inl (by omega))))); exact Or.inr (Or.inr (Or.inr (Or.inr (Or.inr (Or.inl (by omega))))))) (fun i h => by (try dsimp only at h); rcases h with h | h | h | h | h | h | h | h; exact Or.inl (by omega); exact Or.inr (Or.inl (by omega)); exact Or.inr (Or.inr (Or.inl (by omega))); exact Or.inr (Or.inr (Or.inr (Or.inl (by omega)))); exact Or.inr (Or.inr (Or.inr (Or.inr (Or.inl (by omega))))); exact Or.inr (Or.inr (Or.inr (Or.inr (Or.inr (Or.inl (by omega)))))); exact Or.inr (Or.inr (Or.inr (Or.inr (Or.inr (Or.inr (Or.inl (by omega))))))); exact Or.inr (Or.inr (Or.inr (Or.inr (Or.inr (Or.inr (Or.inr (Or.inl (by omega)))))))))), Or.inl rfl⟩
        · skip
          have c54 := wt_nceq h52
          refine wt_T_bi (wq_ld_become n hn 4 12 q48.2) (fun q55 h56 => ?_)
          have f57 := h56
          refine wt_T_bi (wq_st_lay n hn 39 4 q55) (fun q58 h59 => ?_)
          have f60 := h59
          obtain ⟨σ61, eσ61⟩ : ∃ z : wt_St, z = wt_sf q58 0 14 (0 : Int32) := ⟨_, rfl⟩
          rw [← eσ61]
          have fσ61 := wt_fr_sf eσ61
          have vσ61 := wt_ceq (wt_v_sf eσ61)
          refine wt_T_bi (wq_sk_piecesOfAll n hn σ61) (fun q62 h63 => ?_)
          have e64 := h63
          rw [e64]
          refine wt_T_some ?_
          exact ⟨(wt_fr.tr (wt_fr.tr (wt_fr.tr (wt_fr.tr (wt_fr.tr wt_fr.rf f47 (fun i k h => by (try dsimp only at h); rcases h with h | h | h | h | h | h; exact Or.inl (by omega); exact Or.inr (Or.inl (by omega)); exact Or.inr (Or.inr (Or.inl (by omega))); exact Or.inr (Or.inr (Or.inr (Or.inl (by omega)))); exact Or.inr (Or.inr (Or.inr (Or.inr (Or.inl (by omega))))); exact Or.inr (Or.inr (Or.inr (Or.inr (Or.inr (Or.inl (by omega))))))) (fun i h => h.elim)) f50 (fun i k h => by (try dsimp only at h); rcases h with h | h | h | h | h; exact Or.inr (Or.inr (Or.inr (Or.inr (Or.inr (Or.inr (Or.inl (by omega))))))); exact Or.inr (Or.inr (Or.inr (Or.inl (by omega)))); exact Or.inr (Or.inr (Or.inl (by omega))); exact Or.inr (Or.inr (Or.inr (Or.inr (Or.inl (by omega))))); exact Or.inr (Or.inr (Or.inr (Or.inr (Or.inr (Or.inl (by omega))))))) (fun i h => by (try dsimp only at h); rcases h with h | h | h | h | h | h | h | h; exact Or.inl (by omega); exact Or.inr (Or.inl (by omega)); exact Or.inr (Or.inr (Or.inl (by omega))); exact Or.inr (Or.inr (Or.inr (Or.inl (by omega)))); exact Or.inr (Or.inr (Or.inr (Or.inr (Or.inl (by omega))))); exact Or.inr (Or.inr (Or.inr (Or.inr (Or.inr (Or.inl (by omega)))))); exact Or.inr (Or.inr (Or.inr (Or.inr (Or.inr (Or.inr (Or.inl (by omega))))))); exact Or.inr (Or.inr (Or.inr (Or.inr (Or.inr (Or.inr (Or.inr (Or.inl (by omega)))))))))) f57 (fun i k h => by (try dsimp only at h); exact Or.inr (Or.inr (Or.inr (Or.inr (Or.inr (Or.inr (Or.inr (Or.inl (by omega))))))))) (fun i h => by (try dsimp only at h); rcases h with h | h | h | h | h | h | h; exact Or.inr (Or.inr (Or.inr (Or.inr (Or.inr (Or.inr (Or.inr (Or.inr (Or.inl (by omega))))))))); exact Or.inr (Or.inr (Or.inr (Or.inr (Or.inr (Or.inr (Or.inr (Or.inr (Or.inr (Or.inl (by omega)))))))))); exact Or.inr (Or.inr (Or.inr (Or.inr (Or.inr (Or.inr (Or.inr (Or.inr (Or.inr (Or.inr (Or.inl (by omega))))))))))); exact Or.inr (Or.inr (Or.inr (Or.inr (Or.inr (Or.inr (Or.inr (Or.inr (Or.inr (Or.inr (Or.inr (Or.inl (by omega)))))))))))); exact Or.inr (Or.inr (Or.inr (Or.inr (Or.inr (Or.inr (Or.inr (Or.inr (Or.inr (Or.inr (Or.inr (Or.inr (Or.inl (by omega))))))))))))); exact Or.inr (Or.inr (Or.inr (Or.inr (Or.inr (Or.inr (Or.inr (Or.inr (Or.inr (Or.inr (Or.inr (Or.inr (Or.inr (Or.inl (by omega)))))))))))))); exact Or.inr (Or.inr (Or.inr (Or.inr (Or.inr (Or.inr (Or.inr (Or.inr (Or.inr (Or.inr (Or.inr (Or.inr (Or.inr (Or.inr (Or.inl (by omega))))))))))))))))) f60 (fun i k h => h.elim) (fun i h => by (try dsimp only at h); rcases h with h | h | h; exact Or.inr (Or.inr (Or.inr (Or.inr (Or.inr (Or.inr (Or.inr (Or.inr (Or.inr (Or.inr (Or.inr (Or.inr (Or.inr (Or.inr (Or.inr (Or.inl (by omega)))))))))))))))); exact Or.inr (Or.inr (Or.inr (Or.inr (Or.inr (Or.inr (Or.inr (Or.inr (Or.inr (Or.inr (Or.inr (Or.inr (Or.inr (Or.inr (Or.inr (Or.inr (Or.inl (by omega))))))))))))))))); exact Or.inr (Or.inr (Or.inr (Or.inr (Or.inr (Or.inr (Or.inr (Or.inr (Or.inr (Or.inr (Or.inr (Or.inr (Or.inr (Or.inr (Or.inr (Or.inr (Or.inr ((by omega)))))))))))))))))))) fσ61 (fun i k h => by (try dsimp only at h); exact Or.inr (Or.inr (Or.inr (Or.inr (Or.inr (Or.inr (Or.inr (Or.inr ((by omega)))))))))) (fun i h => h.elim)), Or.inl rfl⟩
      · skip
        have c65 := wt_nceq h43
        refine wt_T_some ?_
        exact ⟨wt_fr.rf, (by (try dsimp only); omega)⟩
    · skip
      have c66 := wt_ncle h36
      unfold wp_ap_kase_B15
      unfold wp_ap_kase_B20
      have b67 := wt_bd n
      have k68 : (1 : Int32).toInt = 1 := by decide
      refine wt_T_bi (wq_ap_refuse n hn (1 : Int32) σ) (fun q69 h70 => ?_)
      have e71 := h70
      rw [e71]
      have b72 := wt_bd q69.1
      refine wt_T_if (fun h73 => ?_) (fun h73 => ?_)
      · skip
        have c74 := wt_ceq h73
        refine wt_T_bi (wq_tp_begin n hn x1 σ) (fun q75 h76 => ?_)
        have f77 := h76
        refine wt_T_bi (wq_ld_fill n hn 12 q75) (fun q78 h79 => ?_)
        have f80 := h79
        have b81 := wt_bd q78.1
        refine wt_T_if (fun h82 => ?_) (fun h82 => ?_)
        · skip
          have c83 := wt_ceq h82
          refine wt_T_some ?_
          exact ⟨(wt_fr.tr (wt_fr.tr wt_fr.rf f77 (fun i k h => by (try dsimp only at h); rcases h with h | h | h | h | h | h; exact Or.inl (by omega); exact Or.inr (Or.inl (by omega)); exact Or.inr (Or.inr (Or.inl (by omega))); exact Or.inr (Or.inr (Or.inr (Or.inl (by omega)))); exact Or.inr (Or.inr (Or.inr (Or.inr (Or.inl (by omega))))); exact Or.inr (Or.inr (Or.inr (Or.inr (Or.inr (Or.inl (by omega))))))) (fun i h => h.elim)) f80 (fun i k h => by (try dsimp only at h); rcases h with h | h | h | h | h; exact Or.inr (Or.inr (Or.inr (Or.inr (Or.inr (Or.inr (Or.inl (by omega))))))); exact Or.inr (Or.inr (Or.inr (Or.inl (by omega)))); exact Or.inr (Or.inr (Or.inl (by omega))); exact Or.inr (Or.inr (Or.inr (Or.inr (Or.inl (by omega))))); exact Or.inr (Or.inr (Or.inr (Or.inr (Or.inr (Or.inl (by omega))))))) (fun i h => by (try dsimp only at h); rcases h with h | h | h | h | h | h | h | h; exact Or.inl (by omega); exact Or.inr (Or.inl (by omega)); exact Or.inr (Or.inr (Or.inl (by omega))); exact Or.inr (Or.inr (Or.inr (Or.inl (by omega)))); exact Or.inr (Or.inr (Or.inr (Or.inr (Or.inl (by omega))))); exact Or.inr (Or.inr (Or.inr (Or.inr (Or.inr (Or.inl (by omega)))))); exact Or.inr (Or.inr (Or.inr (Or.inr (Or.inr (Or.inr (Or.inl (by omega))))))); exact Or.inr (Or.inr (Or.inr (Or.inr (Or.inr (Or.inr (Or.inr (Or.inl (by omega)))))))))), Or.inl rfl⟩
        · skip
          have c84 := wt_nceq h82
          refine wt_T_bi (wq_ld_become n hn 4 12 q78.2) (fun q85 h86 => ?_)
          have f87 := h86
          refine wt_T_bi (wq_st_lay n hn 39 4 q85) (fun q88 h89 => ?_)
          have f90 := h89
          obtain ⟨σ91, eσ91⟩ : ∃ z : wt_St, z = wt_sf q88 0 14 (0 : Int32) := ⟨_, rfl⟩
          rw [← eσ91]
          have fσ91 := wt_fr_sf eσ91
          have vσ91 := wt_ceq (wt_v_sf eσ91)
          refine wt_T_bi (wq_sk_piecesOfAll n hn σ91) (fun q92 h93 => ?_)
          have e94 := h93
          rw [e94]
          refine wt_T_some ?_
          exact ⟨(wt_fr.tr (wt_fr.tr (wt_fr.tr (wt_fr.tr (wt_fr.tr wt_fr.rf f77 (fun i k h => by (try dsimp only at h); rcases h with h | h | h | h | h | h; exact Or.inl (by omega); exact Or.inr (Or.inl (by omega)); exact Or.inr (Or.inr (Or.inl (by omega))); exact Or.inr (Or.inr (Or.inr (Or.inl (by omega)))); exact Or.inr (Or.inr (Or.inr (Or.inr (Or.inl (by omega))))); exact Or.inr (Or.inr (Or.inr (Or.inr (Or.inr (Or.inl (by omega))))))) (fun i h => h.elim)) f80 (fun i k h => by (try dsimp only at h); rcases h with h | h | h | h | h; exact Or.inr (Or.inr (Or.inr (Or.inr (Or.inr (Or.inr (Or.inl (by omega))))))); exact Or.inr (Or.inr (Or.inr (Or.inl (by omega)))); exact Or.inr (Or.inr (Or.inl (by omega))); exact Or.inr (Or.inr (Or.inr (Or.inr (Or.inl (by omega))))); exact Or.inr (Or.inr (Or.inr (Or.inr (Or.inr (Or.inl (by omega))))))) (fun i h => by (try dsimp only at h); rcases h with h | h | h | h | h | h | h | h; exact Or.inl (by omega); exact Or.inr (Or.inl (by omega)); exact Or.inr (Or.inr (Or.inl (by omega))); exact Or.inr (Or.inr (Or.inr (Or.inl (by omega)))); exact Or.inr (Or.inr (Or.inr (Or.inr (Or.inl (by omega))))); exact Or.inr (Or.inr (Or.inr (Or.inr (Or.inr (Or.inl (by omega)))))); exact Or.inr (Or.inr (Or.inr (Or.inr (Or.inr (Or.inr (Or.inl (by omega))))))); exact Or.inr (Or.inr (Or.inr (Or.inr (Or.inr (Or.inr (Or.inr (Or.inl (by omega)))))))))) f87 (fun i k h => by (try dsimp only at h); exact Or.inr (Or.inr (Or.inr (Or.inr (Or.inr (Or.inr (Or.inr (Or.inl (by omega))))))))) (fun i h => by (try dsimp only at h); rcases h with h | h | h | h | h | h | h; exact Or.inr (Or.inr (Or.inr (Or.inr (Or.inr (Or.inr (Or.inr (Or.inr (Or.inl (by omega))))))))); exact Or.inr (Or.inr (Or.inr (Or.inr (Or.inr (Or.inr (Or.inr (Or.inr (Or.inr (Or.inl (by omega)))))))))); exact Or.inr (Or.inr (Or.inr (Or.inr (Or.inr (Or.inr (Or.inr (Or.inr (Or.inr (Or.inr (Or.inl (by omega))))))))))); exact Or.inr (Or.inr (Or.inr (Or.inr (Or.inr (Or.inr (Or.inr (Or.inr (Or.inr (Or.inr (Or.inr (Or.inl (by omega)))))))))))); exact Or.inr (Or.inr (Or.inr (Or.inr (Or.inr (Or.inr (Or.inr (Or.inr (Or.inr (Or.inr (Or.inr (Or.inr (Or.inl (by omega))))))))))))); exact Or.inr (Or.inr (Or.inr (Or.inr (Or.inr (Or.inr (Or.inr (Or.inr (Or.inr (Or.inr (Or.inr (Or.inr (Or.inr (Or.inl (by omega)))))))))))))); exact Or.inr (Or.inr (Or.inr (Or.inr (Or.inr (Or.inr (Or.inr (Or.inr (Or.inr (Or.inr (Or.inr (Or.inr (Or.inr (Or.inr (Or.inl (by omega))))))))))))))))) f90 (fun i k h => h.elim) (fun i h => by (try dsimp only at h); rcases h with h | h | h; exact Or.inr (Or.inr (Or.inr (Or.inr (Or.inr (Or.inr (Or.inr (Or.inr (Or.inr (Or.inr (Or.inr (Or.inr (Or.inr (Or.inr (Or.inr (Or.inl (by omega)))))))))))))))); exact Or.inr (Or.inr (Or.inr (Or.inr (Or.inr (Or.inr (Or.inr (Or.inr (Or.inr (Or.inr (Or.inr (Or.inr (Or.inr (Or.inr (Or.inr (Or.inr (Or.inl (by omega))))))))))))))))); exact Or.inr (Or.inr (Or.inr (Or.inr (Or.inr (Or.inr (Or.inr (Or.inr (Or.inr (Or.inr (Or.inr (Or.inr (Or.inr (Or.inr (Or.inr (Or.inr (Or.inr ((by omega)))))))))))))))))))) fσ91 (fun i k h => by (try dsimp only at h); exact Or.inr (Or.inr (Or.inr (Or.inr (Or.inr (Or.inr (Or.inr (Or.inr ((by omega)))))))))) (fun i h => h.elim)), Or.inl rfl⟩
      · skip
        have c95 := wt_nceq h73
        refine wt_T_some ?_
        exact ⟨wt_fr.rf, (by (try dsimp only); omega)⟩
set_option maxRecDepth 100000 in
set_option maxHeartbeats 4000000 in
theorem wq_ap_lacks (n : Nat) (hn : 4294967297 < n) (x1 : Int32) (x2 : Int32) (σ : wt_St) : wt_T (wp_ap_lacks n x1 x2 σ) (fun q => wt_fr (fun i k => False) (fun i => i = 107) σ q.2.2 ∧ (q.1 = 0 ∨ q.1 = 1 ∨ q.1 = 2)) := by
  unfold wp_ap_lacks
  have b1 := wt_bd n
  have b2 := wt_bd x1
  refine wt_T_bi (wq_tx_has n hn x1 σ) (fun q3 h4 => ?_)
  have e5 := h4
  rw [e5]
  have b6 := wt_bd q3.1
  have k7 : (0 : Int32).toInt = 0 := by decide
  refine wt_T_if (fun h8 => ?_) (fun h8 => ?_)
  · skip
    have c9 := wt_ceq h8
    unfold wp_ap_lacks_B16
    have k10 : (1 : Int32).toInt = 1 := by decide
    refine wt_T_bi (wq_ap_miss n hn (1 : Int32) σ) (fun q11 h12 => ?_)
    have e13 := h12
    rw [e13]
    have b14 := wt_bd q11.1
    refine wt_T_if (fun h15 => ?_) (fun h15 => ?_)
    · skip
      have c16 := wt_ceq h15
      have b17 := wt_bd x2
      refine wt_T_bi (wq_ap_refuseCopies n hn x2 σ) (fun q18 h19 => ?_)
      have e20 := h19
      rw [e20]
      have b21 := wt_bd q18.1
      refine wt_T_if (fun h22 => ?_) (fun h22 => ?_)
      · skip
        have c23 := wt_ceq h22
        refine wt_T_bi (wq_tx_spell n hn 107 x1 σ) (fun q24 h25 => ?_)
        have f26 := h25
        refine wt_T_bi (wq_sk_lacking n hn 107 40 x2 q24) (fun q27 h28 => ?_)
        have e29 := h28
        rw [e29]
        refine wt_T_some ?_
        exact ⟨(wt_fr.tr wt_fr.rf f26 (fun i k h => h.elim) (fun i h => by (try dsimp only at h); exact (by omega))), Or.inl rfl⟩
      · skip
        have c30 := wt_nceq h22
        refine wt_T_some ?_
        exact ⟨wt_fr.rf, (by (try dsimp only); omega)⟩
    · skip
      have c31 := wt_nceq h15
      refine wt_T_some ?_
      exact ⟨wt_fr.rf, (by (try dsimp only); omega)⟩
  · skip
    have c32 := wt_nceq h8
    unfold wp_ap_lacks_B16
    refine wt_T_bi (wq_ap_miss n hn (0 : Int32) σ) (fun q33 h34 => ?_)
    have e35 := h34
    rw [e35]
    have b36 := wt_bd q33.1
    refine wt_T_if (fun h37 => ?_) (fun h37 => ?_)
    · skip
      have c38 := wt_ceq h37
      have b39 := wt_bd x2
      refine wt_T_bi (wq_ap_refuseCopies n hn x2 σ) (fun q40 h41 => ?_)
      have e42 := h41
      rw [e42]
      have b43 := wt_bd q40.1
      refine wt_T_if (fun h44 => ?_) (fun h44 => ?_)
      · skip
        have c45 := wt_ceq h44
        refine wt_T_bi (wq_tx_spell n hn 107 x1 σ) (fun q46 h47 => ?_)
        have f48 := h47
        refine wt_T_bi (wq_sk_lacking n hn 107 40 x2 q46) (fun q49 h50 => ?_)
        have e51 := h50
        rw [e51]
        refine wt_T_some ?_
        exact ⟨(wt_fr.tr wt_fr.rf f48 (fun i k h => h.elim) (fun i h => by (try dsimp only at h); exact (by omega))), Or.inl rfl⟩
      · skip
        have c52 := wt_nceq h44
        refine wt_T_some ?_
        exact ⟨wt_fr.rf, (by (try dsimp only); omega)⟩
    · skip
      have c53 := wt_nceq h37
      refine wt_T_some ?_
      exact ⟨wt_fr.rf, (by (try dsimp only); omega)⟩
set_option maxRecDepth 100000 in
set_option maxHeartbeats 4000000 in
theorem wq_ap_least (n : Nat) (hn : 4294967297 < n) (x1 : Int32) (x2 : Int32) (x3 : Int32) (σ : wt_St) : wt_T (wp_ap_least n x1 x2 x3 σ) (fun q => wt_fr (fun i k => (i = 81 ∧ k = 9)) (fun i => i = 85 ∨ i = 82) σ q.2.2 ∧ (q.1 = 0 ∨ q.1 = 1 ∨ q.1 = 2)) := by
  unfold wp_ap_least
  have b1 := wt_bd n
  have b2 := wt_bd x1
  refine wt_T_bi (wq_tx_has n hn x1 σ) (fun q3 h4 => ?_)
  have e5 := h4
  rw [e5]
  have b6 := wt_bd q3.1
  have k7 : (0 : Int32).toInt = 0 := by decide
  refine wt_T_if (fun h8 => ?_) (fun h8 => ?_)
  · skip
    have c9 := wt_ceq h8
    unfold wp_ap_least_B16
    have k10 : (1 : Int32).toInt = 1 := by decide
    refine wt_T_bi (wq_ap_miss n hn (1 : Int32) σ) (fun q11 h12 => ?_)
    have e13 := h12
    rw [e13]
    have b14 := wt_bd q11.1
    refine wt_T_if (fun h15 => ?_) (fun h15 => ?_)
    · skip
      have c16 := wt_ceq h15
      have b17 := wt_bd x3
      refine wt_T_if (fun h18 => ?_) (fun h18 => ?_)
      · skip
        have c19 := wt_clt h18
        unfold wp_ap_least_B28
        unfold wp_ap_least_B33
        refine wt_T_bi (wq_ap_refuse n hn (1 : Int32) σ) (fun q20 h21 => ?_)
        have e22 := h21
        rw [e22]
        have b23 := wt_bd q20.1
        refine wt_T_if (fun h24 => ?_) (fun h24 => ?_)
        · skip
          have c25 := wt_ceq h24
          refine wt_T_bi (wq_rw_findLeast n hn x1 σ) (fun q26 h27 => ?_)
          have f28 := h27
          have b29 := wt_bd x2
          refine wt_T_bi (wq_rw_found n hn x1 x2 x3 q26) (fun q30 h31 => ?_)
          have e32 := h31
          rw [e32]
          refine wt_T_some ?_
          exact ⟨(wt_fr.tr wt_fr.rf f28 (fun i k h => by (try dsimp only at h); exact (by omega)) (fun i h => by (try dsimp only at h); rcases h with h | h; exact Or.inl (by omega); exact Or.inr ((by omega)))), Or.inl rfl⟩
        · skip
          have c33 := wt_nceq h24
          refine wt_T_some ?_
          exact ⟨wt_fr.rf, (by (try dsimp only); omega)⟩
      · skip
        have c34 := wt_ncl h18
        refine wt_T_if (fun h35 => ?_) (fun h35 => ?_)
        · skip
          have c36 := wt_cle h35
          unfold wp_ap_least_B33
          refine wt_T_bi (wq_ap_refuse n hn (0 : Int32) σ) (fun q37 h38 => ?_)
          have e39 := h38
          rw [e39]
          have b40 := wt_bd q37.1
          refine wt_T_if (fun h41 => ?_) (fun h41 => ?_)
          · skip
            have c42 := wt_ceq h41
            refine wt_T_bi (wq_rw_findLeast n hn x1 σ) (fun q43 h44 => ?_)
            have f45 := h44
            have b46 := wt_bd x2
            refine wt_T_bi (wq_rw_found n hn x1 x2 x3 q43) (fun q47 h48 => ?_)
            have e49 := h48
            rw [e49]
            refine wt_T_some ?_
            exact ⟨(wt_fr.tr wt_fr.rf f45 (fun i k h => by (try dsimp only at h); exact (by omega)) (fun i h => by (try dsimp only at h); rcases h with h | h; exact Or.inl (by omega); exact Or.inr ((by omega)))), Or.inl rfl⟩
          · skip
            have c50 := wt_nceq h41
            refine wt_T_some ?_
            exact ⟨wt_fr.rf, (by (try dsimp only); omega)⟩
        · skip
          have c51 := wt_ncle h35
          unfold wp_ap_least_B28
          unfold wp_ap_least_B33
          refine wt_T_bi (wq_ap_refuse n hn (1 : Int32) σ) (fun q52 h53 => ?_)
          have e54 := h53
          rw [e54]
          have b55 := wt_bd q52.1
          refine wt_T_if (fun h56 => ?_) (fun h56 => ?_)
          · skip
            have c57 := wt_ceq h56
            refine wt_T_bi (wq_rw_findLeast n hn x1 σ) (fun q58 h59 => ?_)
            have f60 := h59
            have b61 := wt_bd x2
            refine wt_T_bi (wq_rw_found n hn x1 x2 x3 q58) (fun q62 h63 => ?_)
            have e64 := h63
            rw [e64]
            refine wt_T_some ?_
            exact ⟨(wt_fr.tr wt_fr.rf f60 (fun i k h => by (try dsimp only at h); exact (by omega)) (fun i h => by (try dsimp only at h); rcases h with h | h; exact Or.inl (by omega); exact Or.inr ((by omega)))), Or.inl rfl⟩
          · skip
            have c65 := wt_nceq h56
            refine wt_T_some ?_
            exact ⟨wt_fr.rf, (by (try dsimp only); omega)⟩
    · skip
      have c66 := wt_nceq h15
      refine wt_T_some ?_
      exact ⟨wt_fr.rf, (by (try dsimp only); omega)⟩
  · skip
    have c67 := wt_nceq h8
    unfold wp_ap_least_B16
    refine wt_T_bi (wq_ap_miss n hn (0 : Int32) σ) (fun q68 h69 => ?_)
    have e70 := h69
    rw [e70]
    have b71 := wt_bd q68.1
    refine wt_T_if (fun h72 => ?_) (fun h72 => ?_)
    · skip
      have c73 := wt_ceq h72
      have b74 := wt_bd x3
      refine wt_T_if (fun h75 => ?_) (fun h75 => ?_)
      · skip
        have c76 := wt_clt h75
        unfold wp_ap_least_B28
        unfold wp_ap_least_B33
        have k77 : (1 : Int32).toInt = 1 := by decide
        refine wt_T_bi (wq_ap_refuse n hn (1 : Int32) σ) (fun q78 h79 => ?_)
        have e80 := h79
        rw [e80]
        have b81 := wt_bd q78.1
        refine wt_T_if (fun h82 => ?_) (fun h82 => ?_)
        · skip
          have c83 := wt_ceq h82
          refine wt_T_bi (wq_rw_findLeast n hn x1 σ) (fun q84 h85 => ?_)
          have f86 := h85
          have b87 := wt_bd x2
          refine wt_T_bi (wq_rw_found n hn x1 x2 x3 q84) (fun q88 h89 => ?_)
          have e90 := h89
          rw [e90]
          refine wt_T_some ?_
          exact ⟨(wt_fr.tr wt_fr.rf f86 (fun i k h => by (try dsimp only at h); exact (by omega)) (fun i h => by (try dsimp only at h); rcases h with h | h; exact Or.inl (by omega); exact Or.inr ((by omega)))), Or.inl rfl⟩
        · skip
          have c91 := wt_nceq h82
          refine wt_T_some ?_
          exact ⟨wt_fr.rf, (by (try dsimp only); omega)⟩
      · skip
        have c92 := wt_ncl h75
        have k93 : (1 : Int32).toInt = 1 := by decide
        refine wt_T_if (fun h94 => ?_) (fun h94 => ?_)
        · skip
          have c95 := wt_cle h94
          unfold wp_ap_least_B33
          refine wt_T_bi (wq_ap_refuse n hn (0 : Int32) σ) (fun q96 h97 => ?_)
          have e98 := h97
          rw [e98]
          have b99 := wt_bd q96.1
          refine wt_T_if (fun h100 => ?_) (fun h100 => ?_)
          · skip
            have c101 := wt_ceq h100
            refine wt_T_bi (wq_rw_findLeast n hn x1 σ) (fun q102 h103 => ?_)
            have f104 := h103
            have b105 := wt_bd x2
            refine wt_T_bi (wq_rw_found n hn x1 x2 x3 q102) (fun q106 h107 => ?_)
            have e108 := h107
            rw [e108]
            refine wt_T_some ?_
            exact ⟨(wt_fr.tr wt_fr.rf f104 (fun i k h => by (try dsimp only at h); exact (by omega)) (fun i h => by (try dsimp only at h); rcases h with h | h; exact Or.inl (by omega); exact Or.inr ((by omega)))), Or.inl rfl⟩
          · skip
            have c109 := wt_nceq h100
            refine wt_T_some ?_
            exact ⟨wt_fr.rf, (by (try dsimp only); omega)⟩
        · skip
          have c110 := wt_ncle h94
          unfold wp_ap_least_B28
          unfold wp_ap_least_B33
          refine wt_T_bi (wq_ap_refuse n hn (1 : Int32) σ) (fun q111 h112 => ?_)
          have e113 := h112
          rw [e113]
          have b114 := wt_bd q111.1
          refine wt_T_if (fun h115 => ?_) (fun h115 => ?_)
          · skip
            have c116 := wt_ceq h115
            refine wt_T_bi (wq_rw_findLeast n hn x1 σ) (fun q117 h118 => ?_)
            have f119 := h118
            have b120 := wt_bd x2
            refine wt_T_bi (wq_rw_found n hn x1 x2 x3 q117) (fun q121 h122 => ?_)
            have e123 := h122
            rw [e123]
            refine wt_T_some ?_
            exact ⟨(wt_fr.tr wt_fr.rf f119 (fun i k h => by (try dsimp only at h); exact (by omega)) (fun i h => by (try dsimp only at h); rcases h with h | h; exact Or.inl (by omega); exact Or.inr ((by omega)))), Or.inl rfl⟩
          · skip
            have c124 := wt_nceq h115
            refine wt_T_some ?_
            exact ⟨wt_fr.rf, (by (try dsimp only); omega)⟩
    · skip
      have c125 := wt_nceq h72
      refine wt_T_some ?_
      exact ⟨wt_fr.rf, (by (try dsimp only); omega)⟩
set_option maxRecDepth 100000 in
set_option maxHeartbeats 4000000 in
theorem wq_ap_letter (n : Nat) (hn : 4294967297 < n) (x1 : Int32) (x2 : Int32) (σ : wt_St) : wt_T (wp_ap_letter n x1 x2 σ) (fun q => q.2.2 = σ ∧ (q.1 = 0 ∨ q.1 = 1)) := by
  unfold wp_ap_letter
  have b1 := wt_bd x1
  have k2 : (0 : Int32).toInt = 0 := by decide
  refine wt_T_if (fun h3 => ?_) (fun h3 => ?_)
  · skip
    have c4 := wt_clt h3
    unfold wp_ap_letter_B10
    unfold wp_ap_letter_B15
    have b5 := wt_bd n
    have k6 : (1 : Int32).toInt = 1 := by decide
    refine wt_T_bi (wq_ap_refuse n hn (1 : Int32) σ) (fun q7 h8 => ?_)
    have e9 := h8
    rw [e9]
    have b10 := wt_bd q7.1
    refine wt_T_if (fun h11 => ?_) (fun h11 => ?_)
    · skip
      have c12 := wt_ceq h11
      have b13 := wt_bd x2
      refine wt_T_if (fun h14 => ?_) (fun h14 => ?_)
      · skip
        have c15 := wt_ceq h14
        refine wt_T_bi (wq_sk_pieces n hn x1 σ) (fun q16 h17 => ?_)
        obtain ⟨e18, e18v⟩ := h17
        have e19 := wt_ceq e18v
        have b20 := wt_bd (wt_lk 5 x1 σ)
        have b21 := wt_bd q16.1
        rw [e18]
        refine wt_T_some ?_
        exact ⟨rfl, Or.inl rfl⟩
      · skip
        have c22 := wt_nceq h14
        refine wt_T_if (fun h23 => ?_) (fun h23 => ?_)
        · skip
          have c24 := wt_ceq h23
          refine wt_T_bi (wq_sk_inCase n hn x1 σ) (fun q25 h26 => ?_)
          have e27 := h26
          rw [e27]
          refine wt_T_some ?_
          exact ⟨rfl, Or.inl rfl⟩
        · skip
          have c28 := wt_nceq h23
          have k29 : (2 : Int32).toInt = 2 := by decide
          refine wt_T_if (fun h30 => ?_) (fun h30 => ?_)
          · skip
            have c31 := wt_ceq h30
            refine wt_T_bi (wq_sk_leftOfAll n hn x1 σ) (fun q32 h33 => ?_)
            have e34 := h33
            rw [e34]
            refine wt_T_some ?_
            exact ⟨rfl, Or.inl rfl⟩
          · skip
            have c35 := wt_nceq h30
            have k36 : (3 : Int32).toInt = 3 := by decide
            refine wt_T_if (fun h37 => ?_) (fun h37 => ?_)
            · skip
              have c38 := wt_ceq h37
              refine wt_T_bi (wq_sk_mostLeft n hn x1 σ) (fun q39 h40 => ?_)
              have e41 := h40
              rw [e41]
              refine wt_T_some ?_
              exact ⟨rfl, Or.inl rfl⟩
            · skip
              have c42 := wt_nceq h37
              have k43 : (4 : Int32).toInt = 4 := by decide
              refine wt_T_if (fun h44 => ?_) (fun h44 => ?_)
              · skip
                have c45 := wt_ceq h44
                refine wt_T_bi (wq_sk_wornOut n hn x1 σ) (fun q46 h47 => ?_)
                have e48 := h47
                rw [e48]
                refine wt_T_some ?_
                exact ⟨rfl, Or.inl rfl⟩
              · skip
                have c49 := wt_nceq h44
                have k50 : (5 : Int32).toInt = 5 := by decide
                refine wt_T_if (fun h51 => ?_) (fun h51 => ?_)
                · skip
                  have c52 := wt_ceq h51
                  refine wt_T_bi (wq_ap_look n hn 9 x1 σ) (fun q53 h54 => ?_)
                  obtain ⟨e55, e55v⟩ := h54
                  have e56 := wt_ceq e55v
                  have b57 := wt_bd (wt_lk 9 x1 σ)
                  have b58 := wt_bd q53.1
                  rw [e55]
                  refine wt_T_some ?_
                  exact ⟨rfl, Or.inl rfl⟩
                · skip
                  have c59 := wt_nceq h51
                  have k60 : (6 : Int32).toInt = 6 := by decide
                  refine wt_T_if (fun h61 => ?_) (fun h61 => ?_)
                  · skip
                    have c62 := wt_ceq h61
                    refine wt_T_bi (wq_ap_look n hn 10 x1 σ) (fun q63 h64 => ?_)
                    obtain ⟨e65, e65v⟩ := h64
                    have e66 := wt_ceq e65v
                    have b67 := wt_bd (wt_lk 10 x1 σ)
                    have b68 := wt_bd q63.1
                    rw [e65]
                    refine wt_T_some ?_
                    exact ⟨rfl, Or.inl rfl⟩
                  · skip
                    have c69 := wt_nceq h61
                    have k70 : (7 : Int32).toInt = 7 := by decide
                    refine wt_T_if (fun h71 => ?_) (fun h71 => ?_)
                    · skip
                      have c72 := wt_ceq h71
                      refine wt_T_bi (wq_ap_look n hn 7 x1 σ) (fun q73 h74 => ?_)
                      obtain ⟨e75, e75v⟩ := h74
                      have e76 := wt_ceq e75v
                      have b77 := wt_bd (wt_lk 7 x1 σ)
                      have b78 := wt_bd q73.1
                      rw [e75]
                      refine wt_T_some ?_
                      exact ⟨rfl, Or.inl rfl⟩
                    · skip
                      have c79 := wt_nceq h71
                      refine wt_T_some ?_
                      exact ⟨rfl, Or.inr (rfl)⟩
    · skip
      have c80 := wt_nceq h11
      refine wt_T_some ?_
      exact ⟨rfl, (by (try dsimp only); omega)⟩
  · skip
    have c81 := wt_ncl h3
    have k82 : (26 : Int32).toInt = 26 := by decide
    refine wt_T_if (fun h83 => ?_) (fun h83 => ?_)
    · skip
      have c84 := wt_clt h83
      unfold wp_ap_letter_B15
      have b85 := wt_bd n
      refine wt_T_bi (wq_ap_refuse n hn (0 : Int32) σ) (fun q86 h87 => ?_)
      have e88 := h87
      rw [e88]
      have b89 := wt_bd q86.1
      refine wt_T_if (fun h90 => ?_) (fun h90 => ?_)
      · skip
        have c91 := wt_ceq h90
        have b92 := wt_bd x2
        refine wt_T_if (fun h93 => ?_) (fun h93 => ?_)
        · skip
          have c94 := wt_ceq h93
          refine wt_T_bi (wq_sk_pieces n hn x1 σ) (fun q95 h96 => ?_)
          obtain ⟨e97, e97v⟩ := h96
          have e98 := wt_ceq e97v
          have b99 := wt_bd (wt_lk 5 x1 σ)
          have b100 := wt_bd q95.1
          rw [e97]
          refine wt_T_some ?_
          exact ⟨rfl, Or.inl rfl⟩
        · skip
          have c101 := wt_nceq h93
          have k102 : (1 : Int32).toInt = 1 := by decide
          refine wt_T_if (fun h103 => ?_) (fun h103 => ?_)
          · skip
            have c104 := wt_ceq h103
            refine wt_T_bi (wq_sk_inCase n hn x1 σ) (fun q105 h106 => ?_)
            have e107 := h106
            rw [e107]
            refine wt_T_some ?_
            exact ⟨rfl, Or.inl rfl⟩
          · skip
            have c108 := wt_nceq h103
            have k109 : (2 : Int32).toInt = 2 := by decide
            refine wt_T_if (fun h110 => ?_) (fun h110 => ?_)
            · skip
              have c111 := wt_ceq h110
              refine wt_T_bi (wq_sk_leftOfAll n hn x1 σ) (fun q112 h113 => ?_)
              have e114 := h113
              rw [e114]
              refine wt_T_some ?_
              exact ⟨rfl, Or.inl rfl⟩
            · skip
              have c115 := wt_nceq h110
              have k116 : (3 : Int32).toInt = 3 := by decide
              refine wt_T_if (fun h117 => ?_) (fun h117 => ?_)
              · skip
                have c118 := wt_ceq h117
                refine wt_T_bi (wq_sk_mostLeft n hn x1 σ) (fun q119 h120 => ?_)
                have e121 := h120
                rw [e121]
                refine wt_T_some ?_
                exact ⟨rfl, Or.inl rfl⟩
              · skip
                have c122 := wt_nceq h117
                have k123 : (4 : Int32).toInt = 4 := by decide
                refine wt_T_if (fun h124 => ?_) (fun h124 => ?_)
                · skip
                  have c125 := wt_ceq h124
                  refine wt_T_bi (wq_sk_wornOut n hn x1 σ) (fun q126 h127 => ?_)
                  have e128 := h127
                  rw [e128]
                  refine wt_T_some ?_
                  exact ⟨rfl, Or.inl rfl⟩
                · skip
                  have c129 := wt_nceq h124
                  have k130 : (5 : Int32).toInt = 5 := by decide
                  refine wt_T_if (fun h131 => ?_) (fun h131 => ?_)
                  · skip
                    have c132 := wt_ceq h131
                    refine wt_T_bi (wq_ap_look n hn 9 x1 σ) (fun q133 h134 => ?_)
                    obtain ⟨e135, e135v⟩ := h134
                    have e136 := wt_ceq e135v
                    have b137 := wt_bd (wt_lk 9 x1 σ)
                    have b138 := wt_bd q133.1
                    rw [e135]
                    refine wt_T_some ?_
                    exact ⟨rfl, Or.inl rfl⟩
                  · skip
                    have c139 := wt_nceq h131
                    have k140 : (6 : Int32).toInt = 6 := by decide
                    refine wt_T_if (fun h141 => ?_) (fun h141 => ?_)
                    · skip
                      have c142 := wt_ceq h141
                      refine wt_T_bi (wq_ap_look n hn 10 x1 σ) (fun q143 h144 => ?_)
                      obtain ⟨e145, e145v⟩ := h144
                      have e146 := wt_ceq e145v
                      have b147 := wt_bd (wt_lk 10 x1 σ)
                      have b148 := wt_bd q143.1
                      rw [e145]
                      refine wt_T_some ?_
                      exact ⟨rfl, Or.inl rfl⟩
                    · skip
                      have c149 := wt_nceq h141
                      have k150 : (7 : Int32).toInt = 7 := by decide
                      refine wt_T_if (fun h151 => ?_) (fun h151 => ?_)
                      · skip
                        have c152 := wt_ceq h151
                        refine wt_T_bi (wq_ap_look n hn 7 x1 σ) (fun q153 h154 => ?_)
                        obtain ⟨e155, e155v⟩ := h154
                        have e156 := wt_ceq e155v
                        have b157 := wt_bd (wt_lk 7 x1 σ)
                        have b158 := wt_bd q153.1
                        rw [e155]
                        refine wt_T_some ?_
                        exact ⟨rfl, Or.inl rfl⟩
                      · skip
                        have c159 := wt_nceq h151
                        refine wt_T_some ?_
                        exact ⟨rfl, Or.inr (rfl)⟩
      · skip
        have c160 := wt_nceq h90
        refine wt_T_some ?_
        exact ⟨rfl, (by (try dsimp only); omega)⟩
    · skip
      have c161 := wt_ncl h83
      unfold wp_ap_letter_B10
      unfold wp_ap_letter_B15
      have b162 := wt_bd n
      have k163 : (1 : Int32).toInt = 1 := by decide
      refine wt_T_bi (wq_ap_refuse n hn (1 : Int32) σ) (fun q164 h165 => ?_)
      have e166 := h165
      rw [e166]
      have b167 := wt_bd q164.1
      refine wt_T_if (fun h168 => ?_) (fun h168 => ?_)
      · skip
        have c169 := wt_ceq h168
        have b170 := wt_bd x2
        refine wt_T_if (fun h171 => ?_) (fun h171 => ?_)
        · skip
          have c172 := wt_ceq h171
          refine wt_T_bi (wq_sk_pieces n hn x1 σ) (fun q173 h174 => ?_)
          obtain ⟨e175, e175v⟩ := h174
          have e176 := wt_ceq e175v
          have b177 := wt_bd (wt_lk 5 x1 σ)
          have b178 := wt_bd q173.1
          rw [e175]
          refine wt_T_some ?_
          exact ⟨rfl, Or.inl rfl⟩
        · skip
          have c179 := wt_nceq h171
          refine wt_T_if (fun h180 => ?_) (fun h180 => ?_)
          · skip
            have c181 := wt_ceq h180
            refine wt_T_bi (wq_sk_inCase n hn x1 σ) (fun q182 h183 => ?_)
            have e184 := h183
            rw [e184]
            refine wt_T_some ?_
            exact ⟨rfl, Or.inl rfl⟩
          · skip
            have c185 := wt_nceq h180
            have k186 : (2 : Int32).toInt = 2 := by decide
            refine wt_T_if (fun h187 => ?_) (fun h187 => ?_)
            · skip
              have c188 := wt_ceq h187
              refine wt_T_bi (wq_sk_leftOfAll n hn x1 σ) (fun q189 h190 => ?_)
              have e191 := h190
              rw [e191]
              refine wt_T_some ?_
              exact ⟨rfl, Or.inl rfl⟩
            · skip
              have c192 := wt_nceq h187
              have k193 : (3 : Int32).toInt = 3 := by decide
              refine wt_T_if (fun h194 => ?_) (fun h194 => ?_)
              · skip
                have c195 := wt_ceq h194
                refine wt_T_bi (wq_sk_mostLeft n hn x1 σ) (fun q196 h197 => ?_)
                have e198 := h197
                rw [e198]
                refine wt_T_some ?_
                exact ⟨rfl, Or.inl rfl⟩
              · skip
                have c199 := wt_nceq h194
                have k200 : (4 : Int32).toInt = 4 := by decide
                refine wt_T_if (fun h201 => ?_) (fun h201 => ?_)
                · skip
                  have c202 := wt_ceq h201
                  refine wt_T_bi (wq_sk_wornOut n hn x1 σ) (fun q203 h204 => ?_)
                  have e205 := h204
                  rw [e205]
                  refine wt_T_some ?_
                  exact ⟨rfl, Or.inl rfl⟩
                · skip
                  have c206 := wt_nceq h201
                  have k207 : (5 : Int32).toInt = 5 := by decide
                  refine wt_T_if (fun h208 => ?_) (fun h208 => ?_)
                  · skip
                    have c209 := wt_ceq h208
                    refine wt_T_bi (wq_ap_look n hn 9 x1 σ) (fun q210 h211 => ?_)
                    obtain ⟨e212, e212v⟩ := h211
                    have e213 := wt_ceq e212v
                    have b214 := wt_bd (wt_lk 9 x1 σ)
                    have b215 := wt_bd q210.1
                    rw [e212]
                    refine wt_T_some ?_
                    exact ⟨rfl, Or.inl rfl⟩
                  · skip
                    have c216 := wt_nceq h208
                    have k217 : (6 : Int32).toInt = 6 := by decide
                    refine wt_T_if (fun h218 => ?_) (fun h218 => ?_)
                    · skip
                      have c219 := wt_ceq h218
                      refine wt_T_bi (wq_ap_look n hn 10 x1 σ) (fun q220 h221 => ?_)
                      obtain ⟨e222, e222v⟩ := h221
                      have e223 := wt_ceq e222v
                      have b224 := wt_bd (wt_lk 10 x1 σ)
                      have b225 := wt_bd q220.1
                      rw [e222]
                      refine wt_T_some ?_
                      exact ⟨rfl, Or.inl rfl⟩
                    · skip
                      have c226 := wt_nceq h218
                      have k227 : (7 : Int32).toInt = 7 := by decide
                      refine wt_T_if (fun h228 => ?_) (fun h228 => ?_)
                      · skip
                        have c229 := wt_ceq h228
                        refine wt_T_bi (wq_ap_look n hn 7 x1 σ) (fun q230 h231 => ?_)
                        obtain ⟨e232, e232v⟩ := h231
                        have e233 := wt_ceq e232v
                        have b234 := wt_bd (wt_lk 7 x1 σ)
                        have b235 := wt_bd q230.1
                        rw [e232]
                        refine wt_T_some ?_
                        exact ⟨rfl, Or.inl rfl⟩
                      · skip
                        have c236 := wt_nceq h228
                        refine wt_T_some ?_
                        exact ⟨rfl, Or.inr (rfl)⟩
      · skip
        have c237 := wt_nceq h168
        refine wt_T_some ?_
        exact ⟨rfl, (by (try dsimp only); omega)⟩
set_option maxRecDepth 100000 in
set_option maxHeartbeats 4000000 in
theorem wq_ap_lost (n : Nat) (hn : 4294967297 < n) (x1 : Int32) (σ : wt_St) : wt_T (wp_ap_lost n x1 σ) (fun q => wt_fr (fun i k => (i = 86 ∧ k = 8) ∨ (i = 86 ∧ k = 9)) (fun i => i = 99 ∨ i = 98 ∨ i = 100) σ q.2.2 ∧ (q.1 = 0 ∨ q.1 = 1)) := by
  unfold wp_ap_lost
  have b1 := wt_bd x1
  have k2 : (0 : Int32).toInt = 0 := by decide
  refine wt_T_if (fun h3 => ?_) (fun h3 => ?_)
  · skip
    have c4 := wt_clt h3
    unfold wp_ap_lost_B10
    unfold wp_ap_lost_B15
    have b5 := wt_bd n
    have k6 : (1 : Int32).toInt = 1 := by decide
    refine wt_T_bi (wq_ap_refuse n hn (1 : Int32) σ) (fun q7 h8 => ?_)
    have e9 := h8
    rw [e9]
    have b10 := wt_bd q7.1
    refine wt_T_if (fun h11 => ?_) (fun h11 => ?_)
    · skip
      have c12 := wt_ceq h11
      refine wt_T_bi (wq_wk_printGreedily n hn x1 σ) (fun q13 h14 => ?_)
      have f15 := h14
      refine wt_T_bi (wq_wk_wordsLost n hn q13) (fun q16 h17 => ?_)
      have f18 := h17
      refine wt_T_some ?_
      exact ⟨(wt_fr.tr (wt_fr.tr wt_fr.rf f15 (fun i k h => by (try dsimp only at h); rcases h with h | h; exact Or.inl (by omega); exact Or.inr ((by omega))) (fun i h => by (try dsimp only at h); rcases h with h | h | h; exact Or.inl (by omega); exact Or.inr (Or.inl (by omega)); exact Or.inr (Or.inr ((by omega))))) f18 (fun i k h => h.elim) (fun i h => by (try dsimp only at h); exact Or.inr (Or.inr ((by omega))))), Or.inl rfl⟩
    · skip
      have c19 := wt_nceq h11
      refine wt_T_some ?_
      exact ⟨wt_fr.rf, (by (try dsimp only); omega)⟩
  · skip
    have c20 := wt_ncl h3
    have k21 : (100 : Int32).toInt = 100 := by decide
    refine wt_T_if (fun h22 => ?_) (fun h22 => ?_)
    · skip
      have c23 := wt_cle h22
      unfold wp_ap_lost_B15
      have b24 := wt_bd n
      refine wt_T_bi (wq_ap_refuse n hn (0 : Int32) σ) (fun q25 h26 => ?_)
      have e27 := h26
      rw [e27]
      have b28 := wt_bd q25.1
      refine wt_T_if (fun h29 => ?_) (fun h29 => ?_)
      · skip
        have c30 := wt_ceq h29
        refine wt_T_bi (wq_wk_printGreedily n hn x1 σ) (fun q31 h32 => ?_)
        have f33 := h32
        refine wt_T_bi (wq_wk_wordsLost n hn q31) (fun q34 h35 => ?_)
        have f36 := h35
        refine wt_T_some ?_
        exact ⟨(wt_fr.tr (wt_fr.tr wt_fr.rf f33 (fun i k h => by (try dsimp only at h); rcases h with h | h; exact Or.inl (by omega); exact Or.inr ((by omega))) (fun i h => by (try dsimp only at h); rcases h with h | h | h; exact Or.inl (by omega); exact Or.inr (Or.inl (by omega)); exact Or.inr (Or.inr ((by omega))))) f36 (fun i k h => h.elim) (fun i h => by (try dsimp only at h); exact Or.inr (Or.inr ((by omega))))), Or.inl rfl⟩
      · skip
        have c37 := wt_nceq h29
        refine wt_T_some ?_
        exact ⟨wt_fr.rf, (by (try dsimp only); omega)⟩
    · skip
      have c38 := wt_ncle h22
      unfold wp_ap_lost_B10
      unfold wp_ap_lost_B15
      have b39 := wt_bd n
      have k40 : (1 : Int32).toInt = 1 := by decide
      refine wt_T_bi (wq_ap_refuse n hn (1 : Int32) σ) (fun q41 h42 => ?_)
      have e43 := h42
      rw [e43]
      have b44 := wt_bd q41.1
      refine wt_T_if (fun h45 => ?_) (fun h45 => ?_)
      · skip
        have c46 := wt_ceq h45
        refine wt_T_bi (wq_wk_printGreedily n hn x1 σ) (fun q47 h48 => ?_)
        have f49 := h48
        refine wt_T_bi (wq_wk_wordsLost n hn q47) (fun q50 h51 => ?_)
        have f52 := h51
        refine wt_T_some ?_
        exact ⟨(wt_fr.tr (wt_fr.tr wt_fr.rf f49 (fun i k h => by (try dsimp only at h); rcases h with h | h; exact Or.inl (by omega); exact Or.inr ((by omega))) (fun i h => by (try dsimp only at h); rcases h with h | h | h; exact Or.inl (by omega); exact Or.inr (Or.inl (by omega)); exact Or.inr (Or.inr ((by omega))))) f52 (fun i k h => h.elim) (fun i h => by (try dsimp only at h); exact Or.inr (Or.inr ((by omega))))), Or.inl rfl⟩
      · skip
        have c53 := wt_nceq h45
        refine wt_T_some ?_
        exact ⟨wt_fr.rf, (by (try dsimp only); omega)⟩
set_option maxRecDepth 100000 in
set_option maxHeartbeats 4000000 in
theorem wq_ap_needs (n : Nat) (hn : 4294967297 < n) (x1 : Int32) (x2 : Int32) (σ : wt_St) : wt_T (wp_ap_needs n x1 x2 σ) (fun q => q.2.2 = σ ∧ (q.1 = 0 ∨ q.1 = 1 ∨ q.1 = 2)) := by
  unfold wp_ap_needs
  have b1 := wt_bd x2
  have k2 : (0 : Int32).toInt = 0 := by decide
  refine wt_T_if (fun h3 => ?_) (fun h3 => ?_)
  · skip
    have c4 := wt_clt h3
    unfold wp_ap_needs_B10
    unfold wp_ap_needs_B15
    have b5 := wt_bd n
    have k6 : (1 : Int32).toInt = 1 := by decide
    refine wt_T_bi (wq_ap_refuse n hn (1 : Int32) σ) (fun q7 h8 => ?_)
    have e9 := h8
    rw [e9]
    have b10 := wt_bd q7.1
    refine wt_T_if (fun h11 => ?_) (fun h11 => ?_)
    · skip
      have c12 := wt_ceq h11
      have b13 := wt_bd x1
      refine wt_T_bi (wq_tx_has n hn x1 σ) (fun q14 h15 => ?_)
      have e16 := h15
      rw [e16]
      have b17 := wt_bd q14.1
      refine wt_T_if (fun h18 => ?_) (fun h18 => ?_)
      · skip
        have c19 := wt_ceq h18
        unfold wp_ap_needs_B34
        refine wt_T_bi (wq_ap_miss n hn (1 : Int32) σ) (fun q20 h21 => ?_)
        have e22 := h21
        rw [e22]
        have b23 := wt_bd q20.1
        refine wt_T_if (fun h24 => ?_) (fun h24 => ?_)
        · skip
          have c25 := wt_ceq h24
          refine wt_T_bi (wq_tx_needOf n hn x1 x2 σ) (fun q26 h27 => ?_)
          have e28 := h27
          rw [e28]
          refine wt_T_some ?_
          exact ⟨rfl, Or.inl rfl⟩
        · skip
          have c29 := wt_nceq h24
          refine wt_T_some ?_
          exact ⟨rfl, (by (try dsimp only); omega)⟩
      · skip
        have c30 := wt_nceq h18
        unfold wp_ap_needs_B34
        refine wt_T_bi (wq_ap_miss n hn (0 : Int32) σ) (fun q31 h32 => ?_)
        have e33 := h32
        rw [e33]
        have b34 := wt_bd q31.1
        refine wt_T_if (fun h35 => ?_) (fun h35 => ?_)
        · skip
          have c36 := wt_ceq h35
          refine wt_T_bi (wq_tx_needOf n hn x1 x2 σ) (fun q37 h38 => ?_)
          have e39 := h38
          rw [e39]
          refine wt_T_some ?_
          exact ⟨rfl, Or.inl rfl⟩
        · skip
          have c40 := wt_nceq h35
          refine wt_T_some ?_
          exact ⟨rfl, (by (try dsimp only); omega)⟩
    · skip
      have c41 := wt_nceq h11
      refine wt_T_some ?_
      exact ⟨rfl, (by (try dsimp only); omega)⟩
  · skip
    have c42 := wt_ncl h3
    have k43 : (26 : Int32).toInt = 26 := by decide
    refine wt_T_if (fun h44 => ?_) (fun h44 => ?_)
    · skip
      have c45 := wt_clt h44
      unfold wp_ap_needs_B15
      have b46 := wt_bd n
      refine wt_T_bi (wq_ap_refuse n hn (0 : Int32) σ) (fun q47 h48 => ?_)
      have e49 := h48
      rw [e49]
      have b50 := wt_bd q47.1
      refine wt_T_if (fun h51 => ?_) (fun h51 => ?_)
      · skip
        have c52 := wt_ceq h51
        have b53 := wt_bd x1
        refine wt_T_bi (wq_tx_has n hn x1 σ) (fun q54 h55 => ?_)
        have e56 := h55
        rw [e56]
        have b57 := wt_bd q54.1
        refine wt_T_if (fun h58 => ?_) (fun h58 => ?_)
        · skip
          have c59 := wt_ceq h58
          unfold wp_ap_needs_B34
          have k60 : (1 : Int32).toInt = 1 := by decide
          refine wt_T_bi (wq_ap_miss n hn (1 : Int32) σ) (fun q61 h62 => ?_)
          have e63 := h62
          rw [e63]
          have b64 := wt_bd q61.1
          refine wt_T_if (fun h65 => ?_) (fun h65 => ?_)
          · skip
            have c66 := wt_ceq h65
            refine wt_T_bi (wq_tx_needOf n hn x1 x2 σ) (fun q67 h68 => ?_)
            have e69 := h68
            rw [e69]
            refine wt_T_some ?_
            exact ⟨rfl, Or.inl rfl⟩
          · skip
            have c70 := wt_nceq h65
            refine wt_T_some ?_
            exact ⟨rfl, (by (try dsimp only); omega)⟩
        · skip
          have c71 := wt_nceq h58
          unfold wp_ap_needs_B34
          refine wt_T_bi (wq_ap_miss n hn (0 : Int32) σ) (fun q72 h73 => ?_)
          have e74 := h73
          rw [e74]
          have b75 := wt_bd q72.1
          refine wt_T_if (fun h76 => ?_) (fun h76 => ?_)
          · skip
            have c77 := wt_ceq h76
            refine wt_T_bi (wq_tx_needOf n hn x1 x2 σ) (fun q78 h79 => ?_)
            have e80 := h79
            rw [e80]
            refine wt_T_some ?_
            exact ⟨rfl, Or.inl rfl⟩
          · skip
            have c81 := wt_nceq h76
            refine wt_T_some ?_
            exact ⟨rfl, (by (try dsimp only); omega)⟩
      · skip
        have c82 := wt_nceq h51
        refine wt_T_some ?_
        exact ⟨rfl, (by (try dsimp only); omega)⟩
    · skip
      have c83 := wt_ncl h44
      unfold wp_ap_needs_B10
      unfold wp_ap_needs_B15
      have b84 := wt_bd n
      have k85 : (1 : Int32).toInt = 1 := by decide
      refine wt_T_bi (wq_ap_refuse n hn (1 : Int32) σ) (fun q86 h87 => ?_)
      have e88 := h87
      rw [e88]
      have b89 := wt_bd q86.1
      refine wt_T_if (fun h90 => ?_) (fun h90 => ?_)
      · skip
        have c91 := wt_ceq h90
        have b92 := wt_bd x1
        refine wt_T_bi (wq_tx_has n hn x1 σ) (fun q93 h94 => ?_)
        have e95 := h94
        rw [e95]
        have b96 := wt_bd q93.1
        refine wt_T_if (fun h97 => ?_) (fun h97 => ?_)
        · skip
          have c98 := wt_ceq h97
          unfold wp_ap_needs_B34
          refine wt_T_bi (wq_ap_miss n hn (1 : Int32) σ) (fun q99 h100 => ?_)
          have e101 := h100
          rw [e101]
          have b102 := wt_bd q99.1
          refine wt_T_if (fun h103 => ?_) (fun h103 => ?_)
          · skip
            have c104 := wt_ceq h103
            refine wt_T_bi (wq_tx_needOf n hn x1 x2 σ) (fun q105 h106 => ?_)
            have e107 := h106
            rw [e107]
            refine wt_T_some ?_
            exact ⟨rfl, Or.inl rfl⟩
          · skip
            have c108 := wt_nceq h103
            refine wt_T_some ?_
            exact ⟨rfl, (by (try dsimp only); omega)⟩
        · skip
          have c109 := wt_nceq h97
          unfold wp_ap_needs_B34
          refine wt_T_bi (wq_ap_miss n hn (0 : Int32) σ) (fun q110 h111 => ?_)
          have e112 := h111
          rw [e112]
          have b113 := wt_bd q110.1
          refine wt_T_if (fun h114 => ?_) (fun h114 => ?_)
          · skip
            have c115 := wt_ceq h114
            refine wt_T_bi (wq_tx_needOf n hn x1 x2 σ) (fun q116 h117 => ?_)
            have e118 := h117
            rw [e118]
            refine wt_T_some ?_
            exact ⟨rfl, Or.inl rfl⟩
          · skip
            have c119 := wt_nceq h114
            refine wt_T_some ?_
            exact ⟨rfl, (by (try dsimp only); omega)⟩
      · skip
        have c120 := wt_nceq h90
        refine wt_T_some ?_
        exact ⟨rfl, (by (try dsimp only); omega)⟩
set_option maxRecDepth 100000 in
set_option maxHeartbeats 4000000 in
theorem wq_ap_page (n : Nat) (hn : 4294967297 < n) (x1 : Int32) (x2 : Int32) (σ : wt_St) : wt_T (wp_ap_page n x1 x2 σ) (fun q => wt_fr (fun i k => False) (fun i => i = 79 ∨ i = 80) σ q.2.2 ∧ (q.1 = 0 ∨ q.1 = 1 ∨ q.1 = 2)) := by
  unfold wp_ap_page
  have b1 := wt_bd n
  have b2 := wt_bd x1
  refine wt_T_bi (wq_pg_stands n hn x1 σ) (fun q3 h4 => ?_)
  have e5 := h4
  rw [e5]
  have b6 := wt_bd q3.1
  have k7 : (0 : Int32).toInt = 0 := by decide
  refine wt_T_if (fun h8 => ?_) (fun h8 => ?_)
  · skip
    have c9 := wt_ceq h8
    unfold wp_ap_page_B16
    have k10 : (1 : Int32).toInt = 1 := by decide
    refine wt_T_bi (wq_ap_miss n hn (1 : Int32) σ) (fun q11 h12 => ?_)
    have e13 := h12
    rw [e13]
    have b14 := wt_bd q11.1
    refine wt_T_if (fun h15 => ?_) (fun h15 => ?_)
    · skip
      have c16 := wt_ceq h15
      have b17 := wt_bd x2
      refine wt_T_if (fun h18 => ?_) (fun h18 => ?_)
      · skip
        have c19 := wt_ceq h18
        refine wt_T_bi (wq_ap_look n hn 43 x1 σ) (fun q20 h21 => ?_)
        obtain ⟨e22, e22v⟩ := h21
        have e23 := wt_ceq e22v
        have b24 := wt_bd (wt_lk 43 x1 σ)
        have b25 := wt_bd q20.1
        rw [e22]
        refine wt_T_some ?_
        exact ⟨wt_fr.rf, Or.inl rfl⟩
      · skip
        have c26 := wt_nceq h18
        refine wt_T_if (fun h27 => ?_) (fun h27 => ?_)
        · skip
          have c28 := wt_ceq h27
          refine wt_T_bi (wq_pg_piecesOn n hn x1 σ) (fun q29 h30 => ?_)
          have e31 := h30
          rw [e31]
          refine wt_T_some ?_
          exact ⟨wt_fr.rf, Or.inl rfl⟩
        · skip
          have c32 := wt_nceq h27
          have k33 : (2 : Int32).toInt = 2 := by decide
          refine wt_T_if (fun h34 => ?_) (fun h34 => ?_)
          · skip
            have c35 := wt_ceq h34
            refine wt_T_bi (wq_pg_faintOn n hn x1 σ) (fun q36 h37 => ?_)
            have e38 := h37
            rw [e38]
            refine wt_T_some ?_
            exact ⟨wt_fr.rf, Or.inl rfl⟩
          · skip
            have c39 := wt_nceq h34
            have k40 : (3 : Int32).toInt = 3 := by decide
            refine wt_T_if (fun h41 => ?_) (fun h41 => ?_)
            · skip
              have c42 := wt_ceq h41
              refine wt_T_bi (wq_pg_leastLeftOn n hn x1 σ) (fun q43 h44 => ?_)
              have e45 := h44
              rw [e45]
              refine wt_T_some ?_
              exact ⟨wt_fr.rf, Or.inl rfl⟩
            · skip
              have c46 := wt_nceq h41
              have k47 : (4 : Int32).toInt = 4 := by decide
              refine wt_T_if (fun h48 => ?_) (fun h48 => ?_)
              · skip
                have c49 := wt_ceq h48
                refine wt_T_bi (wq_pg_misreadOn n hn x1 σ) (fun q50 h51 => ?_)
                have f52 := h51
                refine wt_T_some ?_
                exact ⟨(wt_fr.tr wt_fr.rf f52 (fun i k h => h.elim) (fun i h => by (try dsimp only at h); rcases h with h | h; exact Or.inl (by omega); exact Or.inr ((by omega)))), Or.inl rfl⟩
              · skip
                have c53 := wt_nceq h48
                refine wt_T_some ?_
                exact ⟨wt_fr.rf, Or.inr (Or.inl rfl)⟩
    · skip
      have c54 := wt_nceq h15
      refine wt_T_some ?_
      exact ⟨wt_fr.rf, (by (try dsimp only); omega)⟩
  · skip
    have c55 := wt_nceq h8
    unfold wp_ap_page_B16
    refine wt_T_bi (wq_ap_miss n hn (0 : Int32) σ) (fun q56 h57 => ?_)
    have e58 := h57
    rw [e58]
    have b59 := wt_bd q56.1
    refine wt_T_if (fun h60 => ?_) (fun h60 => ?_)
    · skip
      have c61 := wt_ceq h60
      have b62 := wt_bd x2
      refine wt_T_if (fun h63 => ?_) (fun h63 => ?_)
      · skip
        have c64 := wt_ceq h63
        refine wt_T_bi (wq_ap_look n hn 43 x1 σ) (fun q65 h66 => ?_)
        obtain ⟨e67, e67v⟩ := h66
        have e68 := wt_ceq e67v
        have b69 := wt_bd (wt_lk 43 x1 σ)
        have b70 := wt_bd q65.1
        rw [e67]
        refine wt_T_some ?_
        exact ⟨wt_fr.rf, Or.inl rfl⟩
      · skip
        have c71 := wt_nceq h63
        have k72 : (1 : Int32).toInt = 1 := by decide
        refine wt_T_if (fun h73 => ?_) (fun h73 => ?_)
        · skip
          have c74 := wt_ceq h73
          refine wt_T_bi (wq_pg_piecesOn n hn x1 σ) (fun q75 h76 => ?_)
          have e77 := h76
          rw [e77]
          refine wt_T_some ?_
          exact ⟨wt_fr.rf, Or.inl rfl⟩
        · skip
          have c78 := wt_nceq h73
          have k79 : (2 : Int32).toInt = 2 := by decide
          refine wt_T_if (fun h80 => ?_) (fun h80 => ?_)
          · skip
            have c81 := wt_ceq h80
            refine wt_T_bi (wq_pg_faintOn n hn x1 σ) (fun q82 h83 => ?_)
            have e84 := h83
            rw [e84]
            refine wt_T_some ?_
            exact ⟨wt_fr.rf, Or.inl rfl⟩
          · skip
            have c85 := wt_nceq h80
            have k86 : (3 : Int32).toInt = 3 := by decide
            refine wt_T_if (fun h87 => ?_) (fun h87 => ?_)
            · skip
              have c88 := wt_ceq h87
              refine wt_T_bi (wq_pg_leastLeftOn n hn x1 σ) (fun q89 h90 => ?_)
              have e91 := h90
              rw [e91]
              refine wt_T_some ?_
              exact ⟨wt_fr.rf, Or.inl rfl⟩
            · skip
              have c92 := wt_nceq h87
              have k93 : (4 : Int32).toInt = 4 := by decide
              refine wt_T_if (fun h94 => ?_) (fun h94 => ?_)
              · skip
                have c95 := wt_ceq h94
                refine wt_T_bi (wq_pg_misreadOn n hn x1 σ) (fun q96 h97 => ?_)
                have f98 := h97
                refine wt_T_some ?_
                exact ⟨(wt_fr.tr wt_fr.rf f98 (fun i k h => h.elim) (fun i h => by (try dsimp only at h); rcases h with h | h; exact Or.inl (by omega); exact Or.inr ((by omega)))), Or.inl rfl⟩
              · skip
                have c99 := wt_nceq h94
                refine wt_T_some ?_
                exact ⟨wt_fr.rf, Or.inr (Or.inl rfl)⟩
    · skip
      have c100 := wt_nceq h60
      refine wt_T_some ?_
      exact ⟨wt_fr.rf, (by (try dsimp only); omega)⟩
set_option maxRecDepth 100000 in
set_option maxHeartbeats 4000000 in
theorem wq_ap_piece (n : Nat) (hn : 4294967297 < n) (x1 : Int32) (x2 : Int32) (x3 : Int32) (σ : wt_St) : wt_T (wp_ap_piece n x1 x2 x3 σ) (fun q => q.2.2 = σ ∧ (q.1 = 0 ∨ q.1 = 1 ∨ q.1 = 3)) := by
  unfold wp_ap_piece
  have b1 := wt_bd x1
  have k2 : (0 : Int32).toInt = 0 := by decide
  refine wt_T_if (fun h3 => ?_) (fun h3 => ?_)
  · skip
    have c4 := wt_clt h3
    unfold wp_ap_piece_B10
    unfold wp_ap_piece_B15
    have b5 := wt_bd n
    have k6 : (1 : Int32).toInt = 1 := by decide
    refine wt_T_bi (wq_ap_refuse n hn (1 : Int32) σ) (fun q7 h8 => ?_)
    have e9 := h8
    rw [e9]
    have b10 := wt_bd q7.1
    refine wt_T_if (fun h11 => ?_) (fun h11 => ?_)
    · skip
      have c12 := wt_ceq h11
      have b13 := wt_bd x2
      refine wt_T_if (fun h14 => ?_) (fun h14 => ?_)
      · skip
        have c15 := wt_clt h14
        unfold wp_ap_piece_B34
        refine wt_T_some ?_
        exact ⟨rfl, Or.inr (Or.inr (rfl))⟩
      · skip
        have c16 := wt_ncl h14
        refine wt_T_bi (wq_sk_pieces n hn x1 σ) (fun q17 h18 => ?_)
        obtain ⟨e19, e19v⟩ := h18
        have e20 := wt_ceq e19v
        have b21 := wt_bd (wt_lk 5 x1 σ)
        have b22 := wt_bd q17.1
        rw [e19]
        refine wt_T_if (fun h23 => ?_) (fun h23 => ?_)
        · skip
          have c24 := wt_clt h23
          have b25 := wt_bd x3
          refine wt_T_if (fun h26 => ?_) (fun h26 => ?_)
          · skip
            have c27 := wt_clt h26
            unfold wp_ap_piece_B53
            unfold wp_ap_piece_B58
            refine wt_T_bi (wq_ap_refuse n hn (1 : Int32) σ) (fun q28 h29 => ?_)
            have e30 := h29
            rw [e30]
            have b31 := wt_bd q28.1
            refine wt_T_if (fun h32 => ?_) (fun h32 => ?_)
            · skip
              have c33 := wt_ceq h32
              refine wt_T_if (fun h34 => ?_) (fun h34 => ?_)
              · skip
                have c35 := wt_ceq h34
                unfold wp_ap_piece_B82
                have k36 : (12 : Int32).toInt = 12 := by decide
                obtain ⟨j37, j37a, j37b⟩ := wt_mulI x1 (12 : Int32)
                obtain ⟨j38, j38a, j38b⟩ := wt_addI (x1 * (12 : Int32)) x2
                refine wt_T_bi (wq_ap_look n hn 40 ((x1 * (12 : Int32)) + x2) σ) (fun q39 h40 => ?_)
                obtain ⟨e41, e41v⟩ := h40
                have e42 := wt_ceq e41v
                have b43 := wt_bd (wt_lk 40 ((x1 * (12 : Int32)) + x2) σ)
                have b44 := wt_bd q39.1
                rw [e41]
                refine wt_T_some ?_
                exact ⟨rfl, Or.inl rfl⟩
              · skip
                have c45 := wt_nceq h34
                unfold wp_ap_piece_B82
                have k46 : (12 : Int32).toInt = 12 := by decide
                obtain ⟨j47, j47a, j47b⟩ := wt_mulI x1 (12 : Int32)
                obtain ⟨j48, j48a, j48b⟩ := wt_addI (x1 * (12 : Int32)) x2
                refine wt_T_bi (wq_ap_look n hn 41 ((x1 * (12 : Int32)) + x2) σ) (fun q49 h50 => ?_)
                obtain ⟨e51, e51v⟩ := h50
                have e52 := wt_ceq e51v
                have b53 := wt_bd (wt_lk 41 ((x1 * (12 : Int32)) + x2) σ)
                have b54 := wt_bd q49.1
                rw [e51]
                refine wt_T_some ?_
                exact ⟨rfl, Or.inl rfl⟩
            · skip
              have c55 := wt_nceq h32
              refine wt_T_some ?_
              exact ⟨rfl, (by (try dsimp only); omega)⟩
          · skip
            have c56 := wt_ncl h26
            refine wt_T_if (fun h57 => ?_) (fun h57 => ?_)
            · skip
              have c58 := wt_cle h57
              unfold wp_ap_piece_B58
              refine wt_T_bi (wq_ap_refuse n hn (0 : Int32) σ) (fun q59 h60 => ?_)
              have e61 := h60
              rw [e61]
              have b62 := wt_bd q59.1
              refine wt_T_if (fun h63 => ?_) (fun h63 => ?_)
              · skip
                have c64 := wt_ceq h63
                refine wt_T_if (fun h65 => ?_) (fun h65 => ?_)
                · skip
                  have c66 := wt_ceq h65
                  unfold wp_ap_piece_B82
                  have k67 : (12 : Int32).toInt = 12 := by decide
                  obtain ⟨j68, j68a, j68b⟩ := wt_mulI x1 (12 : Int32)
                  obtain ⟨j69, j69a, j69b⟩ := wt_addI (x1 * (12 : Int32)) x2
                  refine wt_T_bi (wq_ap_look n hn 40 ((x1 * (12 : Int32)) + x2) σ) (fun q70 h71 => ?_)
                  obtain ⟨e72, e72v⟩ := h71
                  have e73 := wt_ceq e72v
                  have b74 := wt_bd (wt_lk 40 ((x1 * (12 : Int32)) + x2) σ)
                  have b75 := wt_bd q70.1
                  rw [e72]
                  refine wt_T_some ?_
                  exact ⟨rfl, Or.inl rfl⟩
                · skip
                  have c76 := wt_nceq h65
                  unfold wp_ap_piece_B82
                  have k77 : (12 : Int32).toInt = 12 := by decide
                  obtain ⟨j78, j78a, j78b⟩ := wt_mulI x1 (12 : Int32)
                  obtain ⟨j79, j79a, j79b⟩ := wt_addI (x1 * (12 : Int32)) x2
                  refine wt_T_bi (wq_ap_look n hn 41 ((x1 * (12 : Int32)) + x2) σ) (fun q80 h81 => ?_)
                  obtain ⟨e82, e82v⟩ := h81
                  have e83 := wt_ceq e82v
                  have b84 := wt_bd (wt_lk 41 ((x1 * (12 : Int32)) + x2) σ)
                  have b85 := wt_bd q80.1
                  rw [e82]
                  refine wt_T_some ?_
                  exact ⟨rfl, Or.inl rfl⟩
              · skip
                have c86 := wt_nceq h63
                refine wt_T_some ?_
                exact ⟨rfl, (by (try dsimp only); omega)⟩
            · skip
              have c87 := wt_ncle h57
              unfold wp_ap_piece_B53
              unfold wp_ap_piece_B58
              refine wt_T_bi (wq_ap_refuse n hn (1 : Int32) σ) (fun q88 h89 => ?_)
              have e90 := h89
              rw [e90]
              have b91 := wt_bd q88.1
              refine wt_T_if (fun h92 => ?_) (fun h92 => ?_)
              · skip
                have c93 := wt_ceq h92
                refine wt_T_if (fun h94 => ?_) (fun h94 => ?_)
                · skip
                  have c95 := wt_ceq h94
                  unfold wp_ap_piece_B82
                  have k96 : (12 : Int32).toInt = 12 := by decide
                  obtain ⟨j97, j97a, j97b⟩ := wt_mulI x1 (12 : Int32)
                  obtain ⟨j98, j98a, j98b⟩ := wt_addI (x1 * (12 : Int32)) x2
                  refine wt_T_bi (wq_ap_look n hn 40 ((x1 * (12 : Int32)) + x2) σ) (fun q99 h100 => ?_)
                  obtain ⟨e101, e101v⟩ := h100
                  have e102 := wt_ceq e101v
                  have b103 := wt_bd (wt_lk 40 ((x1 * (12 : Int32)) + x2) σ)
                  have b104 := wt_bd q99.1
                  rw [e101]
                  refine wt_T_some ?_
                  exact ⟨rfl, Or.inl rfl⟩
                · skip
                  have c105 := wt_nceq h94
                  unfold wp_ap_piece_B82
                  have k106 : (12 : Int32).toInt = 12 := by decide
                  obtain ⟨j107, j107a, j107b⟩ := wt_mulI x1 (12 : Int32)
                  obtain ⟨j108, j108a, j108b⟩ := wt_addI (x1 * (12 : Int32)) x2
                  refine wt_T_bi (wq_ap_look n hn 41 ((x1 * (12 : Int32)) + x2) σ) (fun q109 h110 => ?_)
                  obtain ⟨e111, e111v⟩ := h110
                  have e112 := wt_ceq e111v
                  have b113 := wt_bd (wt_lk 41 ((x1 * (12 : Int32)) + x2) σ)
                  have b114 := wt_bd q109.1
                  rw [e111]
                  refine wt_T_some ?_
                  exact ⟨rfl, Or.inl rfl⟩
              · skip
                have c115 := wt_nceq h92
                refine wt_T_some ?_
                exact ⟨rfl, (by (try dsimp only); omega)⟩
        · skip
          have c116 := wt_ncl h23
          unfold wp_ap_piece_B34
          refine wt_T_some ?_
          exact ⟨rfl, Or.inr (Or.inr (rfl))⟩
    · skip
      have c117 := wt_nceq h11
      refine wt_T_some ?_
      exact ⟨rfl, (by (try dsimp only); omega)⟩
  · skip
    have c118 := wt_ncl h3
    have k119 : (26 : Int32).toInt = 26 := by decide
    refine wt_T_if (fun h120 => ?_) (fun h120 => ?_)
    · skip
      have c121 := wt_clt h120
      unfold wp_ap_piece_B15
      have b122 := wt_bd n
      refine wt_T_bi (wq_ap_refuse n hn (0 : Int32) σ) (fun q123 h124 => ?_)
      have e125 := h124
      rw [e125]
      have b126 := wt_bd q123.1
      refine wt_T_if (fun h127 => ?_) (fun h127 => ?_)
      · skip
        have c128 := wt_ceq h127
        have b129 := wt_bd x2
        refine wt_T_if (fun h130 => ?_) (fun h130 => ?_)
        · skip
          have c131 := wt_clt h130
          unfold wp_ap_piece_B34
          refine wt_T_some ?_
          exact ⟨rfl, Or.inr (Or.inr (rfl))⟩
        · skip
          have c132 := wt_ncl h130
          refine wt_T_bi (wq_sk_pieces n hn x1 σ) (fun q133 h134 => ?_)
          obtain ⟨e135, e135v⟩ := h134
          have e136 := wt_ceq e135v
          have b137 := wt_bd (wt_lk 5 x1 σ)
          have b138 := wt_bd q133.1
          rw [e135]
          refine wt_T_if (fun h139 => ?_) (fun h139 => ?_)
          · skip
            have c140 := wt_clt h139
            have b141 := wt_bd x3
            refine wt_T_if (fun h142 => ?_) (fun h142 => ?_)
            · skip
              have c143 := wt_clt h142
              unfold wp_ap_piece_B53
              unfold wp_ap_piece_B58
              have k144 : (1 : Int32).toInt = 1 := by decide
              refine wt_T_bi (wq_ap_refuse n hn (1 : Int32) σ) (fun q145 h146 => ?_)
              have e147 := h146
              rw [e147]
              have b148 := wt_bd q145.1
              refine wt_T_if (fun h149 => ?_) (fun h149 => ?_)
              · skip
                have c150 := wt_ceq h149
                refine wt_T_if (fun h151 => ?_) (fun h151 => ?_)
                · skip
                  have c152 := wt_ceq h151
                  unfold wp_ap_piece_B82
                  have k153 : (12 : Int32).toInt = 12 := by decide
                  obtain ⟨j154, j154a, j154b⟩ := wt_mulI x1 (12 : Int32)
                  obtain ⟨j155, j155a, j155b⟩ := wt_addI (x1 * (12 : Int32)) x2
                  refine wt_T_bi (wq_ap_look n hn 40 ((x1 * (12 : Int32)) + x2) σ) (fun q156 h157 => ?_)
                  obtain ⟨e158, e158v⟩ := h157
                  have e159 := wt_ceq e158v
                  have b160 := wt_bd (wt_lk 40 ((x1 * (12 : Int32)) + x2) σ)
                  have b161 := wt_bd q156.1
                  rw [e158]
                  refine wt_T_some ?_
                  exact ⟨rfl, Or.inl rfl⟩
                · skip
                  have c162 := wt_nceq h151
                  unfold wp_ap_piece_B82
                  have k163 : (12 : Int32).toInt = 12 := by decide
                  obtain ⟨j164, j164a, j164b⟩ := wt_mulI x1 (12 : Int32)
                  obtain ⟨j165, j165a, j165b⟩ := wt_addI (x1 * (12 : Int32)) x2
                  refine wt_T_bi (wq_ap_look n hn 41 ((x1 * (12 : Int32)) + x2) σ) (fun q166 h167 => ?_)
                  obtain ⟨e168, e168v⟩ := h167
                  have e169 := wt_ceq e168v
                  have b170 := wt_bd (wt_lk 41 ((x1 * (12 : Int32)) + x2) σ)
                  have b171 := wt_bd q166.1
                  rw [e168]
                  refine wt_T_some ?_
                  exact ⟨rfl, Or.inl rfl⟩
              · skip
                have c172 := wt_nceq h149
                refine wt_T_some ?_
                exact ⟨rfl, (by (try dsimp only); omega)⟩
            · skip
              have c173 := wt_ncl h142
              have k174 : (1 : Int32).toInt = 1 := by decide
              refine wt_T_if (fun h175 => ?_) (fun h175 => ?_)
              · skip
                have c176 := wt_cle h175
                unfold wp_ap_piece_B58
                refine wt_T_bi (wq_ap_refuse n hn (0 : Int32) σ) (fun q177 h178 => ?_)
                have e179 := h178
                rw [e179]
                have b180 := wt_bd q177.1
                refine wt_T_if (fun h181 => ?_) (fun h181 => ?_)
                · skip
                  have c182 := wt_ceq h181
                  refine wt_T_if (fun h183 => ?_) (fun h183 => ?_)
                  · skip
                    have c184 := wt_ceq h183
                    unfold wp_ap_piece_B82
                    have k185 : (12 : Int32).toInt = 12 := by decide
                    obtain ⟨j186, j186a, j186b⟩ := wt_mulI x1 (12 : Int32)
                    obtain ⟨j187, j187a, j187b⟩ := wt_addI (x1 * (12 : Int32)) x2
                    refine wt_T_bi (wq_ap_look n hn 40 ((x1 * (12 : Int32)) + x2) σ) (fun q188 h189 => ?_)
                    obtain ⟨e190, e190v⟩ := h189
                    have e191 := wt_ceq e190v
                    have b192 := wt_bd (wt_lk 40 ((x1 * (12 : Int32)) + x2) σ)
                    have b193 := wt_bd q188.1
                    rw [e190]
                    refine wt_T_some ?_
                    exact ⟨rfl, Or.inl rfl⟩
                  · skip
                    have c194 := wt_nceq h183
                    unfold wp_ap_piece_B82
                    have k195 : (12 : Int32).toInt = 12 := by decide
                    obtain ⟨j196, j196a, j196b⟩ := wt_mulI x1 (12 : Int32)
                    obtain ⟨j197, j197a, j197b⟩ := wt_addI (x1 * (12 : Int32)) x2
                    refine wt_T_bi (wq_ap_look n hn 41 ((x1 * (12 : Int32)) + x2) σ) (fun q198 h199 => ?_)
                    obtain ⟨e200, e200v⟩ := h199
                    have e201 := wt_ceq e200v
                    have b202 := wt_bd (wt_lk 41 ((x1 * (12 : Int32)) + x2) σ)
                    have b203 := wt_bd q198.1
                    rw [e200]
                    refine wt_T_some ?_
                    exact ⟨rfl, Or.inl rfl⟩
                · skip
                  have c204 := wt_nceq h181
                  refine wt_T_some ?_
                  exact ⟨rfl, (by (try dsimp only); omega)⟩
              · skip
                have c205 := wt_ncle h175
                unfold wp_ap_piece_B53
                unfold wp_ap_piece_B58
                refine wt_T_bi (wq_ap_refuse n hn (1 : Int32) σ) (fun q206 h207 => ?_)
                have e208 := h207
                rw [e208]
                have b209 := wt_bd q206.1
                refine wt_T_if (fun h210 => ?_) (fun h210 => ?_)
                · skip
                  have c211 := wt_ceq h210
                  refine wt_T_if (fun h212 => ?_) (fun h212 => ?_)
                  · skip
                    have c213 := wt_ceq h212
                    unfold wp_ap_piece_B82
                    have k214 : (12 : Int32).toInt = 12 := by decide
                    obtain ⟨j215, j215a, j215b⟩ := wt_mulI x1 (12 : Int32)
                    obtain ⟨j216, j216a, j216b⟩ := wt_addI (x1 * (12 : Int32)) x2
                    refine wt_T_bi (wq_ap_look n hn 40 ((x1 * (12 : Int32)) + x2) σ) (fun q217 h218 => ?_)
                    obtain ⟨e219, e219v⟩ := h218
                    have e220 := wt_ceq e219v
                    have b221 := wt_bd (wt_lk 40 ((x1 * (12 : Int32)) + x2) σ)
                    have b222 := wt_bd q217.1
                    rw [e219]
                    refine wt_T_some ?_
                    exact ⟨rfl, Or.inl rfl⟩
                  · skip
                    have c223 := wt_nceq h212
                    unfold wp_ap_piece_B82
                    have k224 : (12 : Int32).toInt = 12 := by decide
                    obtain ⟨j225, j225a, j225b⟩ := wt_mulI x1 (12 : Int32)
                    obtain ⟨j226, j226a, j226b⟩ := wt_addI (x1 * (12 : Int32)) x2
                    refine wt_T_bi (wq_ap_look n hn 41 ((x1 * (12 : Int32)) + x2) σ) (fun q227 h228 => ?_)
                    obtain ⟨e229, e229v⟩ := h228
                    have e230 := wt_ceq e229v
                    have b231 := wt_bd (wt_lk 41 ((x1 * (12 : Int32)) + x2) σ)
                    have b232 := wt_bd q227.1
                    rw [e229]
                    refine wt_T_some ?_
                    exact ⟨rfl, Or.inl rfl⟩
                · skip
                  have c233 := wt_nceq h210
                  refine wt_T_some ?_
                  exact ⟨rfl, (by (try dsimp only); omega)⟩
          · skip
            have c234 := wt_ncl h139
            unfold wp_ap_piece_B34
            refine wt_T_some ?_
            exact ⟨rfl, Or.inr (Or.inr (rfl))⟩
      · skip
        have c235 := wt_nceq h127
        refine wt_T_some ?_
        exact ⟨rfl, (by (try dsimp only); omega)⟩
    · skip
      have c236 := wt_ncl h120
      unfold wp_ap_piece_B10
      unfold wp_ap_piece_B15
      have b237 := wt_bd n
      have k238 : (1 : Int32).toInt = 1 := by decide
      refine wt_T_bi (wq_ap_refuse n hn (1 : Int32) σ) (fun q239 h240 => ?_)
      have e241 := h240
      rw [e241]
      have b242 := wt_bd q239.1
      refine wt_T_if (fun h243 => ?_) (fun h243 => ?_)
      · skip
        have c244 := wt_ceq h243
        have b245 := wt_bd x2
        refine wt_T_if (fun h246 => ?_) (fun h246 => ?_)
        · skip
          have c247 := wt_clt h246
          unfold wp_ap_piece_B34
          refine wt_T_some ?_
          exact ⟨rfl, Or.inr (Or.inr (rfl))⟩
        · skip
          have c248 := wt_ncl h246
          refine wt_T_bi (wq_sk_pieces n hn x1 σ) (fun q249 h250 => ?_)
          obtain ⟨e251, e251v⟩ := h250
          have e252 := wt_ceq e251v
          have b253 := wt_bd (wt_lk 5 x1 σ)
          have b254 := wt_bd q249.1
          rw [e251]
          refine wt_T_if (fun h255 => ?_) (fun h255 => ?_)
          · skip
            have c256 := wt_clt h255
            have b257 := wt_bd x3
            refine wt_T_if (fun h258 => ?_) (fun h258 => ?_)
            · skip
              have c259 := wt_clt h258
              unfold wp_ap_piece_B53
              unfold wp_ap_piece_B58
              refine wt_T_bi (wq_ap_refuse n hn (1 : Int32) σ) (fun q260 h261 => ?_)
              have e262 := h261
              rw [e262]
              have b263 := wt_bd q260.1
              refine wt_T_if (fun h264 => ?_) (fun h264 => ?_)
              · skip
                have c265 := wt_ceq h264
                refine wt_T_if (fun h266 => ?_) (fun h266 => ?_)
                · skip
                  have c267 := wt_ceq h266
                  unfold wp_ap_piece_B82
                  have k268 : (12 : Int32).toInt = 12 := by decide
                  obtain ⟨j269, j269a, j269b⟩ := wt_mulI x1 (12 : Int32)
                  obtain ⟨j270, j270a, j270b⟩ := wt_addI (x1 * (12 : Int32)) x2
                  refine wt_T_bi (wq_ap_look n hn 40 ((x1 * (12 : Int32)) + x2) σ) (fun q271 h272 => ?_)
                  obtain ⟨e273, e273v⟩ := h272
                  have e274 := wt_ceq e273v
                  have b275 := wt_bd (wt_lk 40 ((x1 * (12 : Int32)) + x2) σ)
                  have b276 := wt_bd q271.1
                  rw [e273]
                  refine wt_T_some ?_
                  exact ⟨rfl, Or.inl rfl⟩
                · skip
                  have c277 := wt_nceq h266
                  unfold wp_ap_piece_B82
                  have k278 : (12 : Int32).toInt = 12 := by decide
                  obtain ⟨j279, j279a, j279b⟩ := wt_mulI x1 (12 : Int32)
                  obtain ⟨j280, j280a, j280b⟩ := wt_addI (x1 * (12 : Int32)) x2
                  refine wt_T_bi (wq_ap_look n hn 41 ((x1 * (12 : Int32)) + x2) σ) (fun q281 h282 => ?_)
                  obtain ⟨e283, e283v⟩ := h282
                  have e284 := wt_ceq e283v
                  have b285 := wt_bd (wt_lk 41 ((x1 * (12 : Int32)) + x2) σ)
                  have b286 := wt_bd q281.1
                  rw [e283]
                  refine wt_T_some ?_
                  exact ⟨rfl, Or.inl rfl⟩
              · skip
                have c287 := wt_nceq h264
                refine wt_T_some ?_
                exact ⟨rfl, (by (try dsimp only); omega)⟩
            · skip
              have c288 := wt_ncl h258
              refine wt_T_if (fun h289 => ?_) (fun h289 => ?_)
              · skip
                have c290 := wt_cle h289
                unfold wp_ap_piece_B58
                refine wt_T_bi (wq_ap_refuse n hn (0 : Int32) σ) (fun q291 h292 => ?_)
                have e293 := h292
                rw [e293]
                have b294 := wt_bd q291.1
                refine wt_T_if (fun h295 => ?_) (fun h295 => ?_)
                · skip
                  have c296 := wt_ceq h295
                  refine wt_T_if (fun h297 => ?_) (fun h297 => ?_)
                  · skip
                    have c298 := wt_ceq h297
                    unfold wp_ap_piece_B82
                    have k299 : (12 : Int32).toInt = 12 := by decide
                    obtain ⟨j300, j300a, j300b⟩ := wt_mulI x1 (12 : Int32)
                    obtain ⟨j301, j301a, j301b⟩ := wt_addI (x1 * (12 : Int32)) x2
                    refine wt_T_bi (wq_ap_look n hn 40 ((x1 * (12 : Int32)) + x2) σ) (fun q302 h303 => ?_)
                    obtain ⟨e304, e304v⟩ := h303
                    have e305 := wt_ceq e304v
                    have b306 := wt_bd (wt_lk 40 ((x1 * (12 : Int32)) + x2) σ)
                    have b307 := wt_bd q302.1
                    rw [e304]
                    refine wt_T_some ?_
                    exact ⟨rfl, Or.inl rfl⟩
                  · skip
                    have c308 := wt_nceq h297
                    unfold wp_ap_piece_B82
                    have k309 : (12 : Int32).toInt = 12 := by decide
                    obtain ⟨j310, j310a, j310b⟩ := wt_mulI x1 (12 : Int32)
                    obtain ⟨j311, j311a, j311b⟩ := wt_addI (x1 * (12 : Int32)) x2
                    refine wt_T_bi (wq_ap_look n hn 41 ((x1 * (12 : Int32)) + x2) σ) (fun q312 h313 => ?_)
                    obtain ⟨e314, e314v⟩ := h313
                    have e315 := wt_ceq e314v
                    have b316 := wt_bd (wt_lk 41 ((x1 * (12 : Int32)) + x2) σ)
                    have b317 := wt_bd q312.1
                    rw [e314]
                    refine wt_T_some ?_
                    exact ⟨rfl, Or.inl rfl⟩
                · skip
                  have c318 := wt_nceq h295
                  refine wt_T_some ?_
                  exact ⟨rfl, (by (try dsimp only); omega)⟩
              · skip
                have c319 := wt_ncle h289
                unfold wp_ap_piece_B53
                unfold wp_ap_piece_B58
                refine wt_T_bi (wq_ap_refuse n hn (1 : Int32) σ) (fun q320 h321 => ?_)
                have e322 := h321
                rw [e322]
                have b323 := wt_bd q320.1
                refine wt_T_if (fun h324 => ?_) (fun h324 => ?_)
                · skip
                  have c325 := wt_ceq h324
                  refine wt_T_if (fun h326 => ?_) (fun h326 => ?_)
                  · skip
                    have c327 := wt_ceq h326
                    unfold wp_ap_piece_B82
                    have k328 : (12 : Int32).toInt = 12 := by decide
                    obtain ⟨j329, j329a, j329b⟩ := wt_mulI x1 (12 : Int32)
                    obtain ⟨j330, j330a, j330b⟩ := wt_addI (x1 * (12 : Int32)) x2
                    refine wt_T_bi (wq_ap_look n hn 40 ((x1 * (12 : Int32)) + x2) σ) (fun q331 h332 => ?_)
                    obtain ⟨e333, e333v⟩ := h332
                    have e334 := wt_ceq e333v
                    have b335 := wt_bd (wt_lk 40 ((x1 * (12 : Int32)) + x2) σ)
                    have b336 := wt_bd q331.1
                    rw [e333]
                    refine wt_T_some ?_
                    exact ⟨rfl, Or.inl rfl⟩
                  · skip
                    have c337 := wt_nceq h326
                    unfold wp_ap_piece_B82
                    have k338 : (12 : Int32).toInt = 12 := by decide
                    obtain ⟨j339, j339a, j339b⟩ := wt_mulI x1 (12 : Int32)
                    obtain ⟨j340, j340a, j340b⟩ := wt_addI (x1 * (12 : Int32)) x2
                    refine wt_T_bi (wq_ap_look n hn 41 ((x1 * (12 : Int32)) + x2) σ) (fun q341 h342 => ?_)
                    obtain ⟨e343, e343v⟩ := h342
                    have e344 := wt_ceq e343v
                    have b345 := wt_bd (wt_lk 41 ((x1 * (12 : Int32)) + x2) σ)
                    have b346 := wt_bd q341.1
                    rw [e343]
                    refine wt_T_some ?_
                    exact ⟨rfl, Or.inl rfl⟩
                · skip
                  have c347 := wt_nceq h324
                  refine wt_T_some ?_
                  exact ⟨rfl, (by (try dsimp only); omega)⟩
          · skip
            have c348 := wt_ncl h255
            unfold wp_ap_piece_B34
            refine wt_T_some ?_
            exact ⟨rfl, Or.inr (Or.inr (rfl))⟩
      · skip
        have c349 := wt_nceq h243
        refine wt_T_some ?_
        exact ⟨rfl, (by (try dsimp only); omega)⟩
set_option maxRecDepth 100000 in
set_option maxHeartbeats 4000000 in
theorem wq_ap_print (n : Nat) (hn : 4294967297 < n) (x1 : Int32) (x2 : Int32) (σ : wt_St) : wt_T (wp_ap_print n x1 x2 σ) (fun q => wt_fr (fun i k => False) (fun i => i = 40) σ q.2.2 ∧ (q.1 = 0 ∨ q.1 = 1 ∨ q.1 = 2)) := by
  unfold wp_ap_print
  have b1 := wt_bd n
  have b2 := wt_bd x1
  refine wt_T_bi (wq_pg_stands n hn x1 σ) (fun q3 h4 => ?_)
  have e5 := h4
  rw [e5]
  have b6 := wt_bd q3.1
  have k7 : (0 : Int32).toInt = 0 := by decide
  refine wt_T_if (fun h8 => ?_) (fun h8 => ?_)
  · skip
    have c9 := wt_ceq h8
    unfold wp_ap_print_B16
    have k10 : (1 : Int32).toInt = 1 := by decide
    refine wt_T_bi (wq_ap_miss n hn (1 : Int32) σ) (fun q11 h12 => ?_)
    have e13 := h12
    rw [e13]
    have b14 := wt_bd q11.1
    refine wt_T_if (fun h15 => ?_) (fun h15 => ?_)
    · skip
      have c16 := wt_ceq h15
      have b17 := wt_bd x2
      refine wt_T_bi (wq_ap_refuseCopies n hn x2 σ) (fun q18 h19 => ?_)
      have e20 := h19
      rw [e20]
      have b21 := wt_bd q18.1
      refine wt_T_if (fun h22 => ?_) (fun h22 => ?_)
      · skip
        have c23 := wt_ceq h22
        refine wt_T_bi (wq_pg_press n hn x1 x2 σ) (fun q24 h25 => ?_)
        have f26 := h25
        refine wt_T_some ?_
        exact ⟨(wt_fr.tr wt_fr.rf f26 (fun i k h => h.elim) (fun i h => by (try dsimp only at h); exact (by omega))), Or.inl rfl⟩
      · skip
        have c27 := wt_nceq h22
        refine wt_T_some ?_
        exact ⟨wt_fr.rf, (by (try dsimp only); omega)⟩
    · skip
      have c28 := wt_nceq h15
      refine wt_T_some ?_
      exact ⟨wt_fr.rf, (by (try dsimp only); omega)⟩
  · skip
    have c29 := wt_nceq h8
    unfold wp_ap_print_B16
    refine wt_T_bi (wq_ap_miss n hn (0 : Int32) σ) (fun q30 h31 => ?_)
    have e32 := h31
    rw [e32]
    have b33 := wt_bd q30.1
    refine wt_T_if (fun h34 => ?_) (fun h34 => ?_)
    · skip
      have c35 := wt_ceq h34
      have b36 := wt_bd x2
      refine wt_T_bi (wq_ap_refuseCopies n hn x2 σ) (fun q37 h38 => ?_)
      have e39 := h38
      rw [e39]
      have b40 := wt_bd q37.1
      refine wt_T_if (fun h41 => ?_) (fun h41 => ?_)
      · skip
        have c42 := wt_ceq h41
        refine wt_T_bi (wq_pg_press n hn x1 x2 σ) (fun q43 h44 => ?_)
        have f45 := h44
        refine wt_T_some ?_
        exact ⟨(wt_fr.tr wt_fr.rf f45 (fun i k h => h.elim) (fun i h => by (try dsimp only at h); exact (by omega))), Or.inl rfl⟩
      · skip
        have c46 := wt_nceq h41
        refine wt_T_some ?_
        exact ⟨wt_fr.rf, (by (try dsimp only); omega)⟩
    · skip
      have c47 := wt_nceq h34
      refine wt_T_some ?_
      exact ⟨wt_fr.rf, (by (try dsimp only); omega)⟩
set_option maxRecDepth 100000 in
set_option maxHeartbeats 4000000 in
theorem wq_ap_read (n : Nat) (hn : 4294967297 < n) (x1 : Int32) (x2 : Int32) (σ : wt_St) : wt_T (wp_ap_read n x1 x2 σ) (fun q => wt_fr (fun i k => False) (fun i => i = 79 ∨ i = 80) σ q.2.2 ∧ (q.1 = 0 ∨ q.1 = 2)) := by
  unfold wp_ap_read
  have b1 := wt_bd n
  have b2 := wt_bd x1
  refine wt_T_bi (wq_pg_stands n hn x1 σ) (fun q3 h4 => ?_)
  have e5 := h4
  rw [e5]
  have b6 := wt_bd q3.1
  have k7 : (0 : Int32).toInt = 0 := by decide
  refine wt_T_if (fun h8 => ?_) (fun h8 => ?_)
  · skip
    have c9 := wt_ceq h8
    unfold wp_ap_read_B16
    have k10 : (1 : Int32).toInt = 1 := by decide
    refine wt_T_bi (wq_ap_miss n hn (1 : Int32) σ) (fun q11 h12 => ?_)
    have e13 := h12
    rw [e13]
    have b14 := wt_bd q11.1
    refine wt_T_if (fun h15 => ?_) (fun h15 => ?_)
    · skip
      have c16 := wt_ceq h15
      refine wt_T_bi (wq_ap_look n hn 43 x1 σ) (fun q17 h18 => ?_)
      obtain ⟨e19, e19v⟩ := h18
      have e20 := wt_ceq e19v
      have b21 := wt_bd (wt_lk 43 x1 σ)
      have b22 := wt_bd q17.1
      rw [e19]
      have b23 := wt_bd x2
      refine wt_T_bi (wq_tx_wordAt n hn q17.1 x2 σ) (fun q24 h25 => ?_)
      have e26 := h25
      rw [e26]
      have b27 := wt_bd q24.1
      have k28 : (-1 : Int32).toInt = -1 := by decide
      refine wt_T_if (fun h29 => ?_) (fun h29 => ?_)
      · skip
        have c30 := wt_ceq h29
        refine wt_T_some ?_
        exact ⟨wt_fr.rf, Or.inl rfl⟩
      · skip
        have c31 := wt_nceq h29
        refine wt_T_bi (wq_pg_readAs n hn x1 x2 σ) (fun q32 h33 => ?_)
        have f34 := h33
        refine wt_T_some ?_
        exact ⟨(wt_fr.tr wt_fr.rf f34 (fun i k h => h.elim) (fun i h => by (try dsimp only at h); rcases h with h | h; exact Or.inl (by omega); exact Or.inr ((by omega)))), Or.inl rfl⟩
    · skip
      have c35 := wt_nceq h15
      refine wt_T_some ?_
      exact ⟨wt_fr.rf, (by (try dsimp only); omega)⟩
  · skip
    have c36 := wt_nceq h8
    unfold wp_ap_read_B16
    refine wt_T_bi (wq_ap_miss n hn (0 : Int32) σ) (fun q37 h38 => ?_)
    have e39 := h38
    rw [e39]
    have b40 := wt_bd q37.1
    refine wt_T_if (fun h41 => ?_) (fun h41 => ?_)
    · skip
      have c42 := wt_ceq h41
      refine wt_T_bi (wq_ap_look n hn 43 x1 σ) (fun q43 h44 => ?_)
      obtain ⟨e45, e45v⟩ := h44
      have e46 := wt_ceq e45v
      have b47 := wt_bd (wt_lk 43 x1 σ)
      have b48 := wt_bd q43.1
      rw [e45]
      have b49 := wt_bd x2
      refine wt_T_bi (wq_tx_wordAt n hn q43.1 x2 σ) (fun q50 h51 => ?_)
      have e52 := h51
      rw [e52]
      have b53 := wt_bd q50.1
      have k54 : (-1 : Int32).toInt = -1 := by decide
      refine wt_T_if (fun h55 => ?_) (fun h55 => ?_)
      · skip
        have c56 := wt_ceq h55
        refine wt_T_some ?_
        exact ⟨wt_fr.rf, Or.inl rfl⟩
      · skip
        have c57 := wt_nceq h55
        refine wt_T_bi (wq_pg_readAs n hn x1 x2 σ) (fun q58 h59 => ?_)
        have f60 := h59
        refine wt_T_some ?_
        exact ⟨(wt_fr.tr wt_fr.rf f60 (fun i k h => h.elim) (fun i h => by (try dsimp only at h); rcases h with h | h; exact Or.inl (by omega); exact Or.inr ((by omega)))), Or.inl rfl⟩
    · skip
      have c61 := wt_nceq h41
      refine wt_T_some ?_
      exact ⟨wt_fr.rf, (by (try dsimp only); omega)⟩
set_option maxRecDepth 100000 in
set_option maxHeartbeats 4000000 in
theorem wq_ap_said (n : Nat) (hn : 4294967297 < n) (x1 : Int32) (x2 : Int32) (σ : wt_St) : wt_T (wp_ap_said n x1 x2 σ) (fun q => wt_fr (fun i k => (i = 86 ∧ k = 8) ∨ (i = 86 ∧ k = 9)) (fun i => i = 99 ∨ i = 98 ∨ i = 100) σ q.2.2 ∧ (q.1 = 0 ∨ q.1 = 1 ∨ q.1 = 2)) := by
  unfold wp_ap_said
  have b1 := wt_bd n
  have b2 := wt_bd x1
  refine wt_T_bi (wq_tg_has n hn 20 x1 σ) (fun q3 h4 => ?_)
  have e5 := h4
  rw [e5]
  have b6 := wt_bd q3.1
  have k7 : (0 : Int32).toInt = 0 := by decide
  refine wt_T_if (fun h8 => ?_) (fun h8 => ?_)
  · skip
    have c9 := wt_ceq h8
    unfold wp_ap_said_B16
    have k10 : (1 : Int32).toInt = 1 := by decide
    refine wt_T_bi (wq_ap_miss n hn (1 : Int32) σ) (fun q11 h12 => ?_)
    have e13 := h12
    rw [e13]
    have b14 := wt_bd q11.1
    refine wt_T_if (fun h15 => ?_) (fun h15 => ?_)
    · skip
      have c16 := wt_ceq h15
      have b17 := wt_bd x2
      refine wt_T_if (fun h18 => ?_) (fun h18 => ?_)
      · skip
        have c19 := wt_clt h18
        unfold wp_ap_said_B29
        unfold wp_ap_said_B34
        refine wt_T_bi (wq_ap_refuse n hn (1 : Int32) σ) (fun q20 h21 => ?_)
        have e22 := h21
        rw [e22]
        have b23 := wt_bd q20.1
        refine wt_T_if (fun h24 => ?_) (fun h24 => ?_)
        · skip
          have c25 := wt_ceq h24
          refine wt_T_bi (wq_wk_printGreedily n hn x2 σ) (fun q26 h27 => ?_)
          have f28 := h27
          refine wt_T_bi (wq_wk_stillSaid n hn x1 q26) (fun q29 h30 => ?_)
          have f31 := h30
          refine wt_T_some ?_
          exact ⟨(wt_fr.tr (wt_fr.tr wt_fr.rf f28 (fun i k h => by (try dsimp only at h); rcases h with h | h; exact Or.inl (by omega); exact Or.inr ((by omega))) (fun i h => by (try dsimp only at h); rcases h with h | h | h; exact Or.inl (by omega); exact Or.inr (Or.inl (by omega)); exact Or.inr (Or.inr ((by omega))))) f31 (fun i k h => h.elim) (fun i h => by (try dsimp only at h); exact Or.inr (Or.inr ((by omega))))), Or.inl rfl⟩
        · skip
          have c32 := wt_nceq h24
          refine wt_T_some ?_
          exact ⟨wt_fr.rf, (by (try dsimp only); omega)⟩
      · skip
        have c33 := wt_ncl h18
        have k34 : (100 : Int32).toInt = 100 := by decide
        refine wt_T_if (fun h35 => ?_) (fun h35 => ?_)
        · skip
          have c36 := wt_cle h35
          unfold wp_ap_said_B34
          refine wt_T_bi (wq_ap_refuse n hn (0 : Int32) σ) (fun q37 h38 => ?_)
          have e39 := h38
          rw [e39]
          have b40 := wt_bd q37.1
          refine wt_T_if (fun h41 => ?_) (fun h41 => ?_)
          · skip
            have c42 := wt_ceq h41
            refine wt_T_bi (wq_wk_printGreedily n hn x2 σ) (fun q43 h44 => ?_)
            have f45 := h44
            refine wt_T_bi (wq_wk_stillSaid n hn x1 q43) (fun q46 h47 => ?_)
            have f48 := h47
            refine wt_T_some ?_
            exact ⟨(wt_fr.tr (wt_fr.tr wt_fr.rf f45 (fun i k h => by (try dsimp only at h); rcases h with h | h; exact Or.inl (by omega); exact Or.inr ((by omega))) (fun i h => by (try dsimp only at h); rcases h with h | h | h; exact Or.inl (by omega); exact Or.inr (Or.inl (by omega)); exact Or.inr (Or.inr ((by omega))))) f48 (fun i k h => h.elim) (fun i h => by (try dsimp only at h); exact Or.inr (Or.inr ((by omega))))), Or.inl rfl⟩
          · skip
            have c49 := wt_nceq h41
            refine wt_T_some ?_
            exact ⟨wt_fr.rf, (by (try dsimp only); omega)⟩
        · skip
          have c50 := wt_ncle h35
          unfold wp_ap_said_B29
          unfold wp_ap_said_B34
          refine wt_T_bi (wq_ap_refuse n hn (1 : Int32) σ) (fun q51 h52 => ?_)
          have e53 := h52
          rw [e53]
          have b54 := wt_bd q51.1
          refine wt_T_if (fun h55 => ?_) (fun h55 => ?_)
          · skip
            have c56 := wt_ceq h55
            refine wt_T_bi (wq_wk_printGreedily n hn x2 σ) (fun q57 h58 => ?_)
            have f59 := h58
            refine wt_T_bi (wq_wk_stillSaid n hn x1 q57) (fun q60 h61 => ?_)
            have f62 := h61
            refine wt_T_some ?_
            exact ⟨(wt_fr.tr (wt_fr.tr wt_fr.rf f59 (fun i k h => by (try dsimp only at h); rcases h with h | h; exact Or.inl (by omega); exact Or.inr ((by omega))) (fun i h => by (try dsimp only at h); rcases h with h | h | h; exact Or.inl (by omega); exact Or.inr (Or.inl (by omega)); exact Or.inr (Or.inr ((by omega))))) f62 (fun i k h => h.elim) (fun i h => by (try dsimp only at h); exact Or.inr (Or.inr ((by omega))))), Or.inl rfl⟩
          · skip
            have c63 := wt_nceq h55
            refine wt_T_some ?_
            exact ⟨wt_fr.rf, (by (try dsimp only); omega)⟩
    · skip
      have c64 := wt_nceq h15
      refine wt_T_some ?_
      exact ⟨wt_fr.rf, (by (try dsimp only); omega)⟩
  · skip
    have c65 := wt_nceq h8
    unfold wp_ap_said_B16
    refine wt_T_bi (wq_ap_miss n hn (0 : Int32) σ) (fun q66 h67 => ?_)
    have e68 := h67
    rw [e68]
    have b69 := wt_bd q66.1
    refine wt_T_if (fun h70 => ?_) (fun h70 => ?_)
    · skip
      have c71 := wt_ceq h70
      have b72 := wt_bd x2
      refine wt_T_if (fun h73 => ?_) (fun h73 => ?_)
      · skip
        have c74 := wt_clt h73
        unfold wp_ap_said_B29
        unfold wp_ap_said_B34
        have k75 : (1 : Int32).toInt = 1 := by decide
        refine wt_T_bi (wq_ap_refuse n hn (1 : Int32) σ) (fun q76 h77 => ?_)
        have e78 := h77
        rw [e78]
        have b79 := wt_bd q76.1
        refine wt_T_if (fun h80 => ?_) (fun h80 => ?_)
        · skip
          have c81 := wt_ceq h80
          refine wt_T_bi (wq_wk_printGreedily n hn x2 σ) (fun q82 h83 => ?_)
          have f84 := h83
          refine wt_T_bi (wq_wk_stillSaid n hn x1 q82) (fun q85 h86 => ?_)
          have f87 := h86
          refine wt_T_some ?_
          exact ⟨(wt_fr.tr (wt_fr.tr wt_fr.rf f84 (fun i k h => by (try dsimp only at h); rcases h with h | h; exact Or.inl (by omega); exact Or.inr ((by omega))) (fun i h => by (try dsimp only at h); rcases h with h | h | h; exact Or.inl (by omega); exact Or.inr (Or.inl (by omega)); exact Or.inr (Or.inr ((by omega))))) f87 (fun i k h => h.elim) (fun i h => by (try dsimp only at h); exact Or.inr (Or.inr ((by omega))))), Or.inl rfl⟩
        · skip
          have c88 := wt_nceq h80
          refine wt_T_some ?_
          exact ⟨wt_fr.rf, (by (try dsimp only); omega)⟩
      · skip
        have c89 := wt_ncl h73
        have k90 : (100 : Int32).toInt = 100 := by decide
        refine wt_T_if (fun h91 => ?_) (fun h91 => ?_)
        · skip
          have c92 := wt_cle h91
          unfold wp_ap_said_B34
          refine wt_T_bi (wq_ap_refuse n hn (0 : Int32) σ) (fun q93 h94 => ?_)
          have e95 := h94
          rw [e95]
          have b96 := wt_bd q93.1
          refine wt_T_if (fun h97 => ?_) (fun h97 => ?_)
          · skip
            have c98 := wt_ceq h97
            refine wt_T_bi (wq_wk_printGreedily n hn x2 σ) (fun q99 h100 => ?_)
            have f101 := h100
            refine wt_T_bi (wq_wk_stillSaid n hn x1 q99) (fun q102 h103 => ?_)
            have f104 := h103
            refine wt_T_some ?_
            exact ⟨(wt_fr.tr (wt_fr.tr wt_fr.rf f101 (fun i k h => by (try dsimp only at h); rcases h with h | h; exact Or.inl (by omega); exact Or.inr ((by omega))) (fun i h => by (try dsimp only at h); rcases h with h | h | h; exact Or.inl (by omega); exact Or.inr (Or.inl (by omega)); exact Or.inr (Or.inr ((by omega))))) f104 (fun i k h => h.elim) (fun i h => by (try dsimp only at h); exact Or.inr (Or.inr ((by omega))))), Or.inl rfl⟩
          · skip
            have c105 := wt_nceq h97
            refine wt_T_some ?_
            exact ⟨wt_fr.rf, (by (try dsimp only); omega)⟩
        · skip
          have c106 := wt_ncle h91
          unfold wp_ap_said_B29
          unfold wp_ap_said_B34
          have k107 : (1 : Int32).toInt = 1 := by decide
          refine wt_T_bi (wq_ap_refuse n hn (1 : Int32) σ) (fun q108 h109 => ?_)
          have e110 := h109
          rw [e110]
          have b111 := wt_bd q108.1
          refine wt_T_if (fun h112 => ?_) (fun h112 => ?_)
          · skip
            have c113 := wt_ceq h112
            refine wt_T_bi (wq_wk_printGreedily n hn x2 σ) (fun q114 h115 => ?_)
            have f116 := h115
            refine wt_T_bi (wq_wk_stillSaid n hn x1 q114) (fun q117 h118 => ?_)
            have f119 := h118
            refine wt_T_some ?_
            exact ⟨(wt_fr.tr (wt_fr.tr wt_fr.rf f116 (fun i k h => by (try dsimp only at h); rcases h with h | h; exact Or.inl (by omega); exact Or.inr ((by omega))) (fun i h => by (try dsimp only at h); rcases h with h | h | h; exact Or.inl (by omega); exact Or.inr (Or.inl (by omega)); exact Or.inr (Or.inr ((by omega))))) f119 (fun i k h => h.elim) (fun i h => by (try dsimp only at h); exact Or.inr (Or.inr ((by omega))))), Or.inl rfl⟩
          · skip
            have c120 := wt_nceq h112
            refine wt_T_some ?_
            exact ⟨wt_fr.rf, (by (try dsimp only); omega)⟩
    · skip
      have c121 := wt_nceq h70
      refine wt_T_some ?_
      exact ⟨wt_fr.rf, (by (try dsimp only); omega)⟩
set_option maxRecDepth 100000 in
set_option maxHeartbeats 4000000 in
theorem wq_ap_set (n : Nat) (hn : 4294967297 < n) (x1 : Int32) (x2 : Int32) (σ : wt_St) : wt_T (wp_ap_set n x1 x2 σ) (fun q => wt_fr (fun i k => False) (fun i => i = 78 ∨ i = 43 ∨ i = 41 ∨ i = 42) σ q.2.2 ∧ (q.1 = 0 ∨ q.1 = 1 ∨ q.1 = 2)) := by
  unfold wp_ap_set
  have b1 := wt_bd n
  have b2 := wt_bd x1
  refine wt_T_bi (wq_tx_has n hn x1 σ) (fun q3 h4 => ?_)
  have e5 := h4
  rw [e5]
  have b6 := wt_bd q3.1
  have k7 : (0 : Int32).toInt = 0 := by decide
  refine wt_T_if (fun h8 => ?_) (fun h8 => ?_)
  · skip
    have c9 := wt_ceq h8
    unfold wp_ap_set_B16
    have k10 : (1 : Int32).toInt = 1 := by decide
    refine wt_T_bi (wq_ap_miss n hn (1 : Int32) σ) (fun q11 h12 => ?_)
    have e13 := h12
    rw [e13]
    have b14 := wt_bd q11.1
    refine wt_T_if (fun h15 => ?_) (fun h15 => ?_)
    · skip
      have c16 := wt_ceq h15
      have b17 := wt_bd x2
      refine wt_T_bi (wq_ap_refuseCopies n hn x2 σ) (fun q18 h19 => ?_)
      have e20 := h19
      rw [e20]
      have b21 := wt_bd q18.1
      refine wt_T_if (fun h22 => ?_) (fun h22 => ?_)
      · skip
        have c23 := wt_ceq h22
        refine wt_T_bi (wq_pg_stand n hn x1 x2 σ) (fun q24 h25 => ?_)
        have f26 := h25
        refine wt_T_some ?_
        exact ⟨(wt_fr.tr wt_fr.rf f26 (fun i k h => h.elim) (fun i h => by (try dsimp only at h); rcases h with h | h | h | h; exact Or.inl (by omega); exact Or.inr (Or.inl (by omega)); exact Or.inr (Or.inr (Or.inl (by omega))); exact Or.inr (Or.inr (Or.inr ((by omega)))))), Or.inl rfl⟩
      · skip
        have c27 := wt_nceq h22
        refine wt_T_some ?_
        exact ⟨wt_fr.rf, (by (try dsimp only); omega)⟩
    · skip
      have c28 := wt_nceq h15
      refine wt_T_some ?_
      exact ⟨wt_fr.rf, (by (try dsimp only); omega)⟩
  · skip
    have c29 := wt_nceq h8
    unfold wp_ap_set_B16
    refine wt_T_bi (wq_ap_miss n hn (0 : Int32) σ) (fun q30 h31 => ?_)
    have e32 := h31
    rw [e32]
    have b33 := wt_bd q30.1
    refine wt_T_if (fun h34 => ?_) (fun h34 => ?_)
    · skip
      have c35 := wt_ceq h34
      have b36 := wt_bd x2
      refine wt_T_bi (wq_ap_refuseCopies n hn x2 σ) (fun q37 h38 => ?_)
      have e39 := h38
      rw [e39]
      have b40 := wt_bd q37.1
      refine wt_T_if (fun h41 => ?_) (fun h41 => ?_)
      · skip
        have c42 := wt_ceq h41
        refine wt_T_bi (wq_pg_stand n hn x1 x2 σ) (fun q43 h44 => ?_)
        have f45 := h44
        refine wt_T_some ?_
        exact ⟨(wt_fr.tr wt_fr.rf f45 (fun i k h => h.elim) (fun i h => by (try dsimp only at h); rcases h with h | h | h | h; exact Or.inl (by omega); exact Or.inr (Or.inl (by omega)); exact Or.inr (Or.inr (Or.inl (by omega))); exact Or.inr (Or.inr (Or.inr ((by omega)))))), Or.inl rfl⟩
      · skip
        have c46 := wt_nceq h41
        refine wt_T_some ?_
        exact ⟨wt_fr.rf, (by (try dsimp only); omega)⟩
    · skip
      have c47 := wt_nceq h34
      refine wt_T_some ?_
      exact ⟨wt_fr.rf, (by (try dsimp only); omega)⟩
set_option maxRecDepth 100000 in
set_option maxHeartbeats 4000000 in
theorem wq_ap_text (n : Nat) (hn : 4294967297 < n) (x1 : Int32) (σ : wt_St) : wt_T (wp_ap_text n x1 σ) (fun q => wt_fr (fun i k => (i = 1 ∧ k = 2) ∨ (i = 1 ∧ k = 3) ∨ (i = 1 ∧ k = 4) ∨ (i = 1 ∧ k = 5) ∨ (i = 1 ∧ k = 6) ∨ (i = 1 ∧ k = 7) ∨ (i = 34 ∧ k = 4)) (fun i => i = 3 ∨ i = 35 ∨ i = 38 ∨ i = 36 ∨ i = 37) σ q.2.2 ∧ (q.1 = 0 ∨ q.1 = 1)) := by
  unfold wp_ap_text
  have b1 := wt_bd x1
  have k2 : (0 : Int32).toInt = 0 := by decide
  refine wt_T_if (fun h3 => ?_) (fun h3 => ?_)
  · skip
    have c4 := wt_clt h3
    unfold wp_ap_text_B22
    unfold wp_ap_text_B27
    have b5 := wt_bd n
    have k6 : (1 : Int32).toInt = 1 := by decide
    refine wt_T_bi (wq_ap_refuse n hn (1 : Int32) σ) (fun q7 h8 => ?_)
    have e9 := h8
    rw [e9]
    have b10 := wt_bd q7.1
    refine wt_T_if (fun h11 => ?_) (fun h11 => ?_)
    · skip
      have c12 := wt_ceq h11
      refine wt_T_bi (wq_tp_begin n hn x1 σ) (fun q13 h14 => ?_)
      have f15 := h14
      have b16 := wt_bd (wt_gf q13 34 4)
      have t17 : (wt_gf q13 34 4).toInt = (wt_gf σ 34 4).toInt := congrArg Int32.toInt (f15.1 34 4 (by (try dsimp only); omega))
      have b18 := wt_bd (wt_gf σ 34 4)
      have k19 : (8 : Int32).toInt = 8 := by decide
      refine wt_T_if (fun h20 => ?_) (fun h20 => ?_)
      · skip
        have c21 := wt_clt h20
        refine wt_T_bi (wq_tx_fill n hn 20 q13) (fun q22 h23 => ?_)
        have f24 := h23
        have b25 := wt_bd q22.1
        refine wt_T_if (fun h26 => ?_) (fun h26 => ?_)
        · skip
          have c27 := wt_ceq h26
          refine wt_T_some ?_
          exact ⟨(wt_fr.tr (wt_fr.tr wt_fr.rf f15 (fun i k h => by (try dsimp only at h); rcases h with h | h | h | h | h | h; exact Or.inl (by omega); exact Or.inr (Or.inl (by omega)); exact Or.inr (Or.inr (Or.inl (by omega))); exact Or.inr (Or.inr (Or.inr (Or.inl (by omega)))); exact Or.inr (Or.inr (Or.inr (Or.inr (Or.inl (by omega))))); exact Or.inr (Or.inr (Or.inr (Or.inr (Or.inr (Or.inl (by omega))))))) (fun i h => h.elim)) f24 (fun i k h => by (try dsimp only at h); rcases h with h | h | h | h | h; exact Or.inr (Or.inr (Or.inr (Or.inl (by omega)))); exact Or.inr (Or.inr (Or.inl (by omega))); exact Or.inr (Or.inr (Or.inr (Or.inr (Or.inl (by omega))))); exact Or.inr (Or.inr (Or.inr (Or.inr (Or.inr (Or.inl (by omega)))))); exact Or.inr (Or.inr (Or.inr (Or.inr (Or.inr (Or.inr ((by omega)))))))) (fun i h => by (try dsimp only at h); rcases h with h | h | h | h | h; exact Or.inl (by omega); exact Or.inr (Or.inl (by omega)); exact Or.inr (Or.inr (Or.inl (by omega))); exact Or.inr (Or.inr (Or.inr (Or.inl (by omega)))); exact Or.inr (Or.inr (Or.inr (Or.inr ((by omega))))))), Or.inl rfl⟩
        · skip
          have c28 := wt_nceq h26
          refine wt_T_some ?_
          exact ⟨(wt_fr.tr (wt_fr.tr wt_fr.rf f15 (fun i k h => by (try dsimp only at h); rcases h with h | h | h | h | h | h; exact Or.inl (by omega); exact Or.inr (Or.inl (by omega)); exact Or.inr (Or.inr (Or.inl (by omega))); exact Or.inr (Or.inr (Or.inr (Or.inl (by omega)))); exact Or.inr (Or.inr (Or.inr (Or.inr (Or.inl (by omega))))); exact Or.inr (Or.inr (Or.inr (Or.inr (Or.inr (Or.inl (by omega))))))) (fun i h => h.elim)) f24 (fun i k h => by (try dsimp only at h); rcases h with h | h | h | h | h; exact Or.inr (Or.inr (Or.inr (Or.inl (by omega)))); exact Or.inr (Or.inr (Or.inl (by omega))); exact Or.inr (Or.inr (Or.inr (Or.inr (Or.inl (by omega))))); exact Or.inr (Or.inr (Or.inr (Or.inr (Or.inr (Or.inl (by omega)))))); exact Or.inr (Or.inr (Or.inr (Or.inr (Or.inr (Or.inr ((by omega)))))))) (fun i h => by (try dsimp only at h); rcases h with h | h | h | h | h; exact Or.inl (by omega); exact Or.inr (Or.inl (by omega)); exact Or.inr (Or.inr (Or.inl (by omega))); exact Or.inr (Or.inr (Or.inr (Or.inl (by omega)))); exact Or.inr (Or.inr (Or.inr (Or.inr ((by omega))))))), Or.inl rfl⟩
      · skip
        have c29 := wt_ncl h20
        refine wt_T_some ?_
        exact ⟨(wt_fr.tr wt_fr.rf f15 (fun i k h => by (try dsimp only at h); rcases h with h | h | h | h | h | h; exact Or.inl (by omega); exact Or.inr (Or.inl (by omega)); exact Or.inr (Or.inr (Or.inl (by omega))); exact Or.inr (Or.inr (Or.inr (Or.inl (by omega)))); exact Or.inr (Or.inr (Or.inr (Or.inr (Or.inl (by omega))))); exact Or.inr (Or.inr (Or.inr (Or.inr (Or.inr (Or.inl (by omega))))))) (fun i h => h.elim)), Or.inl rfl⟩
    · skip
      have c30 := wt_nceq h11
      refine wt_T_some ?_
      exact ⟨wt_fr.rf, (by (try dsimp only); omega)⟩
  · skip
    have c31 := wt_ncl h3
    have b32 := wt_bd (wt_gf σ 1 2)
    refine wt_T_if (fun h33 => ?_) (fun h33 => ?_)
    · skip
      have c34 := wt_clt h33
      unfold wp_ap_text_B22
      unfold wp_ap_text_B27
      have b35 := wt_bd n
      have k36 : (1 : Int32).toInt = 1 := by decide
      refine wt_T_bi (wq_ap_refuse n hn (1 : Int32) σ) (fun q37 h38 => ?_)
      have e39 := h38
      rw [e39]
      have b40 := wt_bd q37.1
      refine wt_T_if (fun h41 => ?_) (fun h41 => ?_)
      · skip
        have c42 := wt_ceq h41
        refine wt_T_bi (wq_tp_begin n hn x1 σ) (fun q43 h44 => ?_)
        have f45 := h44
        have b46 := wt_bd (wt_gf q43 34 4)
        have t47 : (wt_gf q43 34 4).toInt = (wt_gf σ 34 4).toInt := congrArg Int32.toInt (f45.1 34 4 (by (try dsimp only); omega))
        have b48 := wt_bd (wt_gf σ 34 4)
        have k49 : (8 : Int32).toInt = 8 := by decide
        refine wt_T_if (fun h50 => ?_) (fun h50 => ?_)
        · skip
          have c51 := wt_clt h50
          refine wt_T_bi (wq_tx_fill n hn 20 q43) (fun q52 h53 => ?_)
          have f54 := h53
          have b55 := wt_bd q52.1
          refine wt_T_if (fun h56 => ?_) (fun h56 => ?_)
          · skip
            have c57 := wt_ceq h56
            refine wt_T_some ?_
            exact ⟨(wt_fr.tr (wt_fr.tr wt_fr.rf f45 (fun i k h => by (try dsimp only at h); rcases h with h | h | h | h | h | h; exact Or.inl (by omega); exact Or.inr (Or.inl (by omega)); exact Or.inr (Or.inr (Or.inl (by omega))); exact Or.inr (Or.inr (Or.inr (Or.inl (by omega)))); exact Or.inr (Or.inr (Or.inr (Or.inr (Or.inl (by omega))))); exact Or.inr (Or.inr (Or.inr (Or.inr (Or.inr (Or.inl (by omega))))))) (fun i h => h.elim)) f54 (fun i k h => by (try dsimp only at h); rcases h with h | h | h | h | h; exact Or.inr (Or.inr (Or.inr (Or.inl (by omega)))); exact Or.inr (Or.inr (Or.inl (by omega))); exact Or.inr (Or.inr (Or.inr (Or.inr (Or.inl (by omega))))); exact Or.inr (Or.inr (Or.inr (Or.inr (Or.inr (Or.inl (by omega)))))); exact Or.inr (Or.inr (Or.inr (Or.inr (Or.inr (Or.inr ((by omega)))))))) (fun i h => by (try dsimp only at h); rcases h with h | h | h | h | h; exact Or.inl (by omega); exact Or.inr (Or.inl (by omega)); exact Or.inr (Or.inr (Or.inl (by omega))); exact Or.inr (Or.inr (Or.inr (Or.inl (by omega)))); exact Or.inr (Or.inr (Or.inr (Or.inr ((by omega))))))), Or.inl rfl⟩
          · skip
            have c58 := wt_nceq h56
            refine wt_T_some ?_
            exact ⟨(wt_fr.tr (wt_fr.tr wt_fr.rf f45 (fun i k h => by (try dsimp only at h); rcases h with h | h | h | h | h | h; exact Or.inl (by omega); exact Or.inr (Or.inl (by omega)); exact Or.inr (Or.inr (Or.inl (by omega))); exact Or.inr (Or.inr (Or.inr (Or.inl (by omega)))); exact Or.inr (Or.inr (Or.inr (Or.inr (Or.inl (by omega))))); exact Or.inr (Or.inr (Or.inr (Or.inr (Or.inr (Or.inl (by omega))))))) (fun i h => h.elim)) f54 (fun i k h => by (try dsimp only at h); rcases h with h | h | h | h | h; exact Or.inr (Or.inr (Or.inr (Or.inl (by omega)))); exact Or.inr (Or.inr (Or.inl (by omega))); exact Or.inr (Or.inr (Or.inr (Or.inr (Or.inl (by omega))))); exact Or.inr (Or.inr (Or.inr (Or.inr (Or.inr (Or.inl (by omega)))))); exact Or.inr (Or.inr (Or.inr (Or.inr (Or.inr (Or.inr ((by omega)))))))) (fun i h => by (try dsimp only at h); rcases h with h | h | h | h | h; exact Or.inl (by omega); exact Or.inr (Or.inl (by omega)); exact Or.inr (Or.inr (Or.inl (by omega))); exact Or.inr (Or.inr (Or.inr (Or.inl (by omega)))); exact Or.inr (Or.inr (Or.inr (Or.inr ((by omega))))))), Or.inl rfl⟩
        · skip
          have c59 := wt_ncl h50
          refine wt_T_some ?_
          exact ⟨(wt_fr.tr wt_fr.rf f45 (fun i k h => by (try dsimp only at h); rcases h with h | h | h | h | h | h; exact Or.inl (by omega); exact Or.inr (Or.inl (by omega)); exact Or.inr (Or.inr (Or.inl (by omega))); exact Or.inr (Or.inr (Or.inr (Or.inl (by omega)))); exact Or.inr (Or.inr (Or.inr (Or.inr (Or.inl (by omega))))); exact Or.inr (Or.inr (Or.inr (Or.inr (Or.inr (Or.inl (by omega))))))) (fun i h => h.elim)), Or.inl rfl⟩
      · skip
        have c60 := wt_nceq h41
        refine wt_T_some ?_
        exact ⟨wt_fr.rf, (by (try dsimp only); omega)⟩
    · skip
      have c61 := wt_ncl h33
      have k62 : (200 : Int32).toInt = 200 := by decide
      refine wt_T_if (fun h63 => ?_) (fun h63 => ?_)
      · skip
        have c64 := wt_cle h63
        unfold wp_ap_text_B27
        have b65 := wt_bd n
        refine wt_T_bi (wq_ap_refuse n hn (0 : Int32) σ) (fun q66 h67 => ?_)
        have e68 := h67
        rw [e68]
        have b69 := wt_bd q66.1
        refine wt_T_if (fun h70 => ?_) (fun h70 => ?_)
        · skip
          have c71 := wt_ceq h70
          refine wt_T_bi (wq_tp_begin n hn x1 σ) (fun q72 h73 => ?_)
          have f74 := h73
          have b75 := wt_bd (wt_gf q72 34 4)
          have t76 : (wt_gf q72 34 4).toInt = (wt_gf σ 34 4).toInt := congrArg Int32.toInt (f74.1 34 4 (by (try dsimp only); omega))
          have b77 := wt_bd (wt_gf σ 34 4)
          have k78 : (8 : Int32).toInt = 8 := by decide
          refine wt_T_if (fun h79 => ?_) (fun h79 => ?_)
          · skip
            have c80 := wt_clt h79
            refine wt_T_bi (wq_tx_fill n hn 20 q72) (fun q81 h82 => ?_)
            have f83 := h82
            have b84 := wt_bd q81.1
            refine wt_T_if (fun h85 => ?_) (fun h85 => ?_)
            · skip
              have c86 := wt_ceq h85
              refine wt_T_some ?_
              exact ⟨(wt_fr.tr (wt_fr.tr wt_fr.rf f74 (fun i k h => by (try dsimp only at h); rcases h with h | h | h | h | h | h; exact Or.inl (by omega); exact Or.inr (Or.inl (by omega)); exact Or.inr (Or.inr (Or.inl (by omega))); exact Or.inr (Or.inr (Or.inr (Or.inl (by omega)))); exact Or.inr (Or.inr (Or.inr (Or.inr (Or.inl (by omega))))); exact Or.inr (Or.inr (Or.inr (Or.inr (Or.inr (Or.inl (by omega))))))) (fun i h => h.elim)) f83 (fun i k h => by (try dsimp only at h); rcases h with h | h | h | h | h; exact Or.inr (Or.inr (Or.inr (Or.inl (by omega)))); exact Or.inr (Or.inr (Or.inl (by omega))); exact Or.inr (Or.inr (Or.inr (Or.inr (Or.inl (by omega))))); exact Or.inr (Or.inr (Or.inr (Or.inr (Or.inr (Or.inl (by omega)))))); exact Or.inr (Or.inr (Or.inr (Or.inr (Or.inr (Or.inr ((by omega)))))))) (fun i h => by (try dsimp only at h); rcases h with h | h | h | h | h; exact Or.inl (by omega); exact Or.inr (Or.inl (by omega)); exact Or.inr (Or.inr (Or.inl (by omega))); exact Or.inr (Or.inr (Or.inr (Or.inl (by omega)))); exact Or.inr (Or.inr (Or.inr (Or.inr ((by omega))))))), Or.inl rfl⟩
            · skip
              have c87 := wt_nceq h85
              refine wt_T_some ?_
              exact ⟨(wt_fr.tr (wt_fr.tr wt_fr.rf f74 (fun i k h => by (try dsimp only at h); rcases h with h | h | h | h | h | h; exact Or.inl (by omega); exact Or.inr (Or.inl (by omega)); exact Or.inr (Or.inr (Or.inl (by omega))); exact Or.inr (Or.inr (Or.inr (Or.inl (by omega)))); exact Or.inr (Or.inr (Or.inr (Or.inr (Or.inl (by omega))))); exact Or.inr (Or.inr (Or.inr (Or.inr (Or.inr (Or.inl (by omega))))))) (fun i h => h.elim)) f83 (fun i k h => by (try dsimp only at h); rcases h with h | h | h | h | h; exact Or.inr (Or.inr (Or.inr (Or.inl (by omega)))); exact Or.inr (Or.inr (Or.inl (by omega))); exact Or.inr (Or.inr (Or.inr (Or.inr (Or.inl (by omega))))); exact Or.inr (Or.inr (Or.inr (Or.inr (Or.inr (Or.inl (by omega)))))); exact Or.inr (Or.inr (Or.inr (Or.inr (Or.inr (Or.inr ((by omega)))))))) (fun i h => by (try dsimp only at h); rcases h with h | h | h | h | h; exact Or.inl (by omega); exact Or.inr (Or.inl (by omega)); exact Or.inr (Or.inr (Or.inl (by omega))); exact Or.inr (Or.inr (Or.inr (Or.inl (by omega)))); exact Or.inr (Or.inr (Or.inr (Or.inr ((by omega))))))), Or.inl rfl⟩
          · skip
            have c88 := wt_ncl h79
            refine wt_T_some ?_
            exact ⟨(wt_fr.tr wt_fr.rf f74 (fun i k h => by (try dsimp only at h); rcases h with h | h | h | h | h | h; exact Or.inl (by omega); exact Or.inr (Or.inl (by omega)); exact Or.inr (Or.inr (Or.inl (by omega))); exact Or.inr (Or.inr (Or.inr (Or.inl (by omega)))); exact Or.inr (Or.inr (Or.inr (Or.inr (Or.inl (by omega))))); exact Or.inr (Or.inr (Or.inr (Or.inr (Or.inr (Or.inl (by omega))))))) (fun i h => h.elim)), Or.inl rfl⟩
        · skip
          have c89 := wt_nceq h70
          refine wt_T_some ?_
          exact ⟨wt_fr.rf, (by (try dsimp only); omega)⟩
      · skip
        have c90 := wt_ncle h63
        unfold wp_ap_text_B22
        unfold wp_ap_text_B27
        have b91 := wt_bd n
        have k92 : (1 : Int32).toInt = 1 := by decide
        refine wt_T_bi (wq_ap_refuse n hn (1 : Int32) σ) (fun q93 h94 => ?_)
        have e95 := h94
        rw [e95]
        have b96 := wt_bd q93.1
        refine wt_T_if (fun h97 => ?_) (fun h97 => ?_)
        · skip
          have c98 := wt_ceq h97
          refine wt_T_bi (wq_tp_begin n hn x1 σ) (fun q99 h100 => ?_)
          have f101 := h100
          have b102 := wt_bd (wt_gf q99 34 4)
          have t103 : (wt_gf q99 34 4).toInt = (wt_gf σ 34 4).toInt := congrArg Int32.toInt (f101.1 34 4 (by (try dsimp only); omega))
          have b104 := wt_bd (wt_gf σ 34 4)
          have k105 : (8 : Int32).toInt = 8 := by decide
          refine wt_T_if (fun h106 => ?_) (fun h106 => ?_)
          · skip
            have c107 := wt_clt h106
            refine wt_T_bi (wq_tx_fill n hn 20 q99) (fun q108 h109 => ?_)
            have f110 := h109
            have b111 := wt_bd q108.1
            refine wt_T_if (fun h112 => ?_) (fun h112 => ?_)
            · skip
              have c113 := wt_ceq h112
              refine wt_T_some ?_
              exact ⟨(wt_fr.tr (wt_fr.tr wt_fr.rf f101 (fun i k h => by (try dsimp only at h); rcases h with h | h | h | h | h | h; exact Or.inl (by omega); exact Or.inr (Or.inl (by omega)); exact Or.inr (Or.inr (Or.inl (by omega))); exact Or.inr (Or.inr (Or.inr (Or.inl (by omega)))); exact Or.inr (Or.inr (Or.inr (Or.inr (Or.inl (by omega))))); exact Or.inr (Or.inr (Or.inr (Or.inr (Or.inr (Or.inl (by omega))))))) (fun i h => h.elim)) f110 (fun i k h => by (try dsimp only at h); rcases h with h | h | h | h | h; exact Or.inr (Or.inr (Or.inr (Or.inl (by omega)))); exact Or.inr (Or.inr (Or.inl (by omega))); exact Or.inr (Or.inr (Or.inr (Or.inr (Or.inl (by omega))))); exact Or.inr (Or.inr (Or.inr (Or.inr (Or.inr (Or.inl (by omega)))))); exact Or.inr (Or.inr (Or.inr (Or.inr (Or.inr (Or.inr ((by omega)))))))) (fun i h => by (try dsimp only at h); rcases h with h | h | h | h | h; exact Or.inl (by omega); exact Or.inr (Or.inl (by omega)); exact Or.inr (Or.inr (Or.inl (by omega))); exact Or.inr (Or.inr (Or.inr (Or.inl (by omega)))); exact Or.inr (Or.inr (Or.inr (Or.inr ((by omega))))))), Or.inl rfl⟩
            · skip
              have c114 := wt_nceq h112
              refine wt_T_some ?_
              exact ⟨(wt_fr.tr (wt_fr.tr wt_fr.rf f101 (fun i k h => by (try dsimp only at h); rcases h with h | h | h | h | h | h; exact Or.inl (by omega); exact Or.inr (Or.inl (by omega)); exact Or.inr (Or.inr (Or.inl (by omega))); exact Or.inr (Or.inr (Or.inr (Or.inl (by omega)))); exact Or.inr (Or.inr (Or.inr (Or.inr (Or.inl (by omega))))); exact Or.inr (Or.inr (Or.inr (Or.inr (Or.inr (Or.inl (by omega))))))) (fun i h => h.elim)) f110 (fun i k h => by (try dsimp only at h); rcases h with h | h | h | h | h; exact Or.inr (Or.inr (Or.inr (Or.inl (by omega)))); exact Or.inr (Or.inr (Or.inl (by omega))); exact Or.inr (Or.inr (Or.inr (Or.inr (Or.inl (by omega))))); exact Or.inr (Or.inr (Or.inr (Or.inr (Or.inr (Or.inl (by omega)))))); exact Or.inr (Or.inr (Or.inr (Or.inr (Or.inr (Or.inr ((by omega)))))))) (fun i h => by (try dsimp only at h); rcases h with h | h | h | h | h; exact Or.inl (by omega); exact Or.inr (Or.inl (by omega)); exact Or.inr (Or.inr (Or.inl (by omega))); exact Or.inr (Or.inr (Or.inr (Or.inl (by omega)))); exact Or.inr (Or.inr (Or.inr (Or.inr ((by omega))))))), Or.inl rfl⟩
          · skip
            have c115 := wt_ncl h106
            refine wt_T_some ?_
            exact ⟨(wt_fr.tr wt_fr.rf f101 (fun i k h => by (try dsimp only at h); rcases h with h | h | h | h | h | h; exact Or.inl (by omega); exact Or.inr (Or.inl (by omega)); exact Or.inr (Or.inr (Or.inl (by omega))); exact Or.inr (Or.inr (Or.inr (Or.inl (by omega)))); exact Or.inr (Or.inr (Or.inr (Or.inr (Or.inl (by omega))))); exact Or.inr (Or.inr (Or.inr (Or.inr (Or.inr (Or.inl (by omega))))))) (fun i h => h.elim)), Or.inl rfl⟩
        · skip
          have c116 := wt_nceq h97
          refine wt_T_some ?_
          exact ⟨wt_fr.rf, (by (try dsimp only); omega)⟩
set_option maxRecDepth 100000 in
set_option maxHeartbeats 4000000 in
theorem wq_ap_together (n : Nat) (hn : 4294967297 < n) (x1 : Int32) (σ : wt_St) : wt_T (wp_ap_together n x1 σ) (fun q => wt_fr (fun i k => False) (fun i => i = 106) σ q.2.2 ∧ (q.1 = 0 ∨ q.1 = 1)) := by
  unfold wp_ap_together
  have b1 := wt_bd n
  have b2 := wt_bd x1
  refine wt_T_bi (wq_ap_refuseCopies n hn x1 σ) (fun q3 h4 => ?_)
  have e5 := h4
  rw [e5]
  have b6 := wt_bd q3.1
  have k7 : (0 : Int32).toInt = 0 := by decide
  refine wt_T_if (fun h8 => ?_) (fun h8 => ?_)
  · skip
    have c9 := wt_ceq h8
    refine wt_T_bi (wq_tr_mostAtOnce n hn x1 σ) (fun q10 h11 => ?_)
    have f12 := h11
    refine wt_T_some ?_
    exact ⟨(wt_fr.tr wt_fr.rf f12 (fun i k h => h.elim) (fun i h => by (try dsimp only at h); exact (by omega))), Or.inl rfl⟩
  · skip
    have c13 := wt_nceq h8
    refine wt_T_some ?_
    exact ⟨wt_fr.rf, (by (try dsimp only); omega)⟩
set_option maxRecDepth 100000 in
set_option maxHeartbeats 4000000 in
theorem wq_ap_told (n : Nat) (hn : 4294967297 < n) (x1 : Int32) (σ : wt_St) : wt_T (wp_ap_told n x1 σ) (fun q => q.2.2 = σ ∧ (q.1 = 0 ∨ q.1 = 1)) := by
  unfold wp_ap_told
  have b1 := wt_bd x1
  have k2 : (0 : Int32).toInt = 0 := by decide
  refine wt_T_if (fun h3 => ?_) (fun h3 => ?_)
  · skip
    have c4 := wt_ceq h3
    have b5 := wt_bd n
    refine wt_T_bi (wq_sk_piecesOfAll n hn σ) (fun q6 h7 => ?_)
    have e8 := h7
    rw [e8]
    refine wt_T_some ?_
    exact ⟨rfl, Or.inl rfl⟩
  · skip
    have c9 := wt_nceq h3
    have k10 : (1 : Int32).toInt = 1 := by decide
    refine wt_T_if (fun h11 => ?_) (fun h11 => ?_)
    · skip
      have c12 := wt_ceq h11
      refine wt_T_some ?_
      exact ⟨rfl, Or.inl rfl⟩
    · skip
      have c13 := wt_nceq h11
      have k14 : (2 : Int32).toInt = 2 := by decide
      refine wt_T_if (fun h15 => ?_) (fun h15 => ?_)
      · skip
        have c16 := wt_ceq h15
        refine wt_T_some ?_
        exact ⟨rfl, Or.inl rfl⟩
      · skip
        have c17 := wt_nceq h15
        have k18 : (3 : Int32).toInt = 3 := by decide
        refine wt_T_if (fun h19 => ?_) (fun h19 => ?_)
        · skip
          have c20 := wt_ceq h19
          have b21 := wt_bd n
          refine wt_T_bi (wq_pg_standing n hn σ) (fun q22 h23 => ?_)
          have e24 := h23
          rw [e24]
          refine wt_T_some ?_
          exact ⟨rfl, Or.inl rfl⟩
        · skip
          have c25 := wt_nceq h19
          have k26 : (4 : Int32).toInt = 4 := by decide
          refine wt_T_if (fun h27 => ?_) (fun h27 => ?_)
          · skip
            have c28 := wt_ceq h27
            refine wt_T_some ?_
            exact ⟨rfl, Or.inl rfl⟩
          · skip
            have c29 := wt_nceq h27
            have k30 : (5 : Int32).toInt = 5 := by decide
            refine wt_T_if (fun h31 => ?_) (fun h31 => ?_)
            · skip
              have c32 := wt_ceq h31
              refine wt_T_some ?_
              exact ⟨rfl, Or.inl rfl⟩
            · skip
              have c33 := wt_nceq h31
              have k34 : (6 : Int32).toInt = 6 := by decide
              refine wt_T_if (fun h35 => ?_) (fun h35 => ?_)
              · skip
                have c36 := wt_ceq h35
                refine wt_T_some ?_
                exact ⟨rfl, Or.inl rfl⟩
              · skip
                have c37 := wt_nceq h35
                have k38 : (7 : Int32).toInt = 7 := by decide
                refine wt_T_if (fun h39 => ?_) (fun h39 => ?_)
                · skip
                  have c40 := wt_ceq h39
                  refine wt_T_some ?_
                  exact ⟨rfl, Or.inl rfl⟩
                · skip
                  have c41 := wt_nceq h39
                  refine wt_T_some ?_
                  exact ⟨rfl, Or.inr (rfl)⟩
set_option maxRecDepth 100000 in
set_option maxHeartbeats 4000000 in
theorem wq_ap_tongue (n : Nat) (hn : 4294967297 < n) (x1 : Int32) (σ : wt_St) : wt_T (wp_ap_tongue n x1 σ) (fun q => wt_fr (fun i k => (i = 1 ∧ k = 2) ∨ (i = 1 ∧ k = 3) ∨ (i = 1 ∧ k = 4) ∨ (i = 1 ∧ k = 5) ∨ (i = 1 ∧ k = 6) ∨ (i = 1 ∧ k = 7) ∨ (i = 27 ∧ k = 6) ∨ (i = 27 ∧ k = 7) ∨ (i = 20 ∧ k = 6) ∨ (i = 20 ∧ k = 7) ∨ (i = 34 ∧ k = 4) ∨ (i = 39 ∧ k = 8) ∨ (i = 0 ∧ k = 14)) (fun i => i = 3 ∨ i = 29 ∨ i = 30 ∨ i = 31 ∨ i = 28 ∨ i = 32 ∨ i = 33 ∨ i = 21 ∨ i = 22 ∨ i = 23 ∨ i = 24 ∨ i = 25 ∨ i = 26 ∨ i = 41 ∨ i = 43) σ q.2.2 ∧ (q.1 = 0 ∨ q.1 = 1)) := by
  unfold wp_ap_tongue
  have b1 := wt_bd x1
  have k2 : (0 : Int32).toInt = 0 := by decide
  refine wt_T_if (fun h3 => ?_) (fun h3 => ?_)
  · skip
    have c4 := wt_clt h3
    unfold wp_ap_tongue_B15
    unfold wp_ap_tongue_B20
    have b5 := wt_bd n
    have k6 : (1 : Int32).toInt = 1 := by decide
    refine wt_T_bi (wq_ap_refuse n hn (1 : Int32) σ) (fun q7 h8 => ?_)
    have e9 := h8
    rw [e9]
    have b10 := wt_bd q7.1
    refine wt_T_if (fun h11 => ?_) (fun h11 => ?_)
    · skip
      have c12 := wt_ceq h11
      refine wt_T_bi (wq_tp_begin n hn x1 σ) (fun q13 h14 => ?_)
      have f15 := h14
      refine wt_T_bi (wq_tg_fill n hn 27 q13) (fun q16 h17 => ?_)
      have f18 := h17
      have b19 := wt_bd q16.1
      refine wt_T_if (fun h20 => ?_) (fun h20 => ?_)
      · skip
        have c21 := wt_ceq h20
        refine wt_T_some ?_
        exact ⟨(wt_fr.tr (wt_fr.tr wt_fr.rf f15 (fun i k h => by (try dsimp only at h); rcases h with h | h | h | h | h | h; exact Or.inl (by omega); exact Or.inr (Or.inl (by omega)); exact Or.inr (Or.inr (Or.inl (by omega))); exact Or.inr (Or.inr (Or.inr (Or.inl (by omega)))); exact Or.inr (Or.inr (Or.inr (Or.inr (Or.inl (by omega))))); exact Or.inr (Or.inr (Or.inr (Or.inr (Or.inr (Or.inl (by omega))))))) (fun i h => h.elim)) f18 (fun i k h => by (try dsimp only at h); rcases h with h | h | h | h | h | h; exact Or.inr (Or.inr (Or.inr (Or.inr (Or.inr (Or.inr (Or.inl (by omega))))))); exact Or.inr (Or.inr (Or.inr (Or.inr (Or.inr (Or.inr (Or.inr (Or.inl (by omega)))))))); exact Or.inr (Or.inr (Or.inr (Or.inl (by omega)))); exact Or.inr (Or.inr (Or.inl (by omega))); exact Or.inr (Or.inr (Or.inr (Or.inr (Or.inl (by omega))))); exact Or.inr (Or.inr (Or.inr (Or.inr (Or.inr (Or.inl (by omega))))))) (fun i h => by (try dsimp only at h); rcases h with h | h | h | h | h | h | h; exact Or.inl (by omega); exact Or.inr (Or.inl (by omega)); exact Or.inr (Or.inr (Or.inl (by omega))); exact Or.inr (Or.inr (Or.inr (Or.inl (by omega)))); exact Or.inr (Or.inr (Or.inr (Or.inr (Or.inl (by omega))))); exact Or.inr (Or.inr (Or.inr (Or.inr (Or.inr (Or.inl (by omega)))))); exact Or.inr (Or.inr (Or.inr (Or.inr (Or.inr (Or.inr (Or.inl (by omega))))))))), Or.inl rfl⟩
      · skip
        have c22 := wt_nceq h20
        refine wt_T_bi (wq_tg_become n hn 20 27 q16.2) (fun q23 h24 => ?_)
        have f25 := h24
        obtain ⟨σ26, eσ26⟩ : ∃ z : wt_St, z = wt_sf q23 34 4 (0 : Int32) := ⟨_, rfl⟩
        rw [← eσ26]
        have fσ26 := wt_fr_sf eσ26
        have vσ26 := wt_ceq (wt_v_sf eσ26)
        obtain ⟨σ27, eσ27⟩ : ∃ z : wt_St, z = wt_sf σ26 39 8 (0 : Int32) := ⟨_, rfl⟩
        rw [← eσ27]
        have fσ27 := wt_fr_sf eσ27
        have vσ27 := wt_ceq (wt_v_sf eσ27)
        refine wt_T_bi (wq_st_clearPages n hn 39 σ27) (fun q28 h29 => ?_)
        have f30 := h29
        obtain ⟨σ31, eσ31⟩ : ∃ z : wt_St, z = wt_sf q28 0 14 (0 : Int32) := ⟨_, rfl⟩
        rw [← eσ31]
        have fσ31 := wt_fr_sf eσ31
        have vσ31 := wt_ceq (wt_v_sf eσ31)
        refine wt_T_some ?_
        exact ⟨(wt_fr.tr (wt_fr.tr (wt_fr.tr (wt_fr.tr (wt_fr.tr (wt_fr.tr (wt_fr.tr wt_fr.rf f15 (fun i k h => by (try dsimp only at h); rcases h with h | h | h | h | h | h; exact Or.inl (by omega); exact Or.inr (Or.inl (by omega)); exact Or.inr (Or.inr (Or.inl (by omega))); exact Or.inr (Or.inr (Or.inr (Or.inl (by omega)))); exact Or.inr (Or.inr (Or.inr (Or.inr (Or.inl (by omega))))); exact Or.inr (Or.inr (Or.inr (Or.inr (Or.inr (Or.inl (by omega))))))) (fun i h => h.elim)) f18 (fun i k h => by (try dsimp only at h); rcases h with h | h | h | h | h | h; exact Or.inr (Or.inr (Or.inr (Or.inr (Or.inr (Or.inr (Or.inl (by omega))))))); exact Or.inr (Or.inr (Or.inr (Or.inr (Or.inr (Or.inr (Or.inr (Or.inl (by omega)))))))); exact Or.inr (Or.inr (Or.inr (Or.inl (by omega)))); exact Or.inr (Or.inr (Or.inl (by omega))); exact Or.inr (Or.inr (Or.inr (Or.inr (Or.inl (by omega))))); exact Or.inr (Or.inr (Or.inr (Or.inr (Or.inr (Or.inl (by omega))))))) (fun i h => by (try dsimp only at h); rcases h with h | h | h | h | h | h | h; exact Or.inl (by omega); exact Or.inr (Or.inl (by omega)); exact Or.inr (Or.inr (Or.inl (by omega))); exact Or.inr (Or.inr (Or.inr (Or.inl (by omega)))); exact Or.inr (Or.inr (Or.inr (Or.inr (Or.inl (by omega))))); exact Or.inr (Or.inr (Or.inr (Or.inr (Or.inr (Or.inl (by omega)))))); exact Or.inr (Or.inr (Or.inr (Or.inr (Or.inr (Or.inr (Or.inl (by omega))))))))) f25 (fun i k h => by (try dsimp only at h); rcases h with h | h; exact Or.inr (Or.inr (Or.inr (Or.inr (Or.inr (Or.inr (Or.inr (Or.inr (Or.inl (by omega))))))))); exact Or.inr (Or.inr (Or.inr (Or.inr (Or.inr (Or.inr (Or.inr (Or.inr (Or.inr (Or.inl (by omega))))))))))) (fun i h => by (try dsimp only at h); rcases h with h | h | h | h | h | h; exact Or.inr (Or.inr (Or.inr (Or.inr (Or.inr (Or.inr (Or.inr (Or.inl (by omega)))))))); exact Or.inr (Or.inr (Or.inr (Or.inr (Or.inr (Or.inr (Or.inr (Or.inr (Or.inl (by omega))))))))); exact Or.inr (Or.inr (Or.inr (Or.inr (Or.inr (Or.inr (Or.inr (Or.inr (Or.inr (Or.inl (by omega)))))))))); exact Or.inr (Or.inr (Or.inr (Or.inr (Or.inr (Or.inr (Or.inr (Or.inr (Or.inr (Or.inr (Or.inl (by omega))))))))))); exact Or.inr (Or.inr (Or.inr (Or.inr (Or.inr (Or.inr (Or.inr (Or.inr (Or.inr (Or.inr (Or.inr (Or.inl (by omega)))))))))))); exact Or.inr (Or.inr (Or.inr (Or.inr (Or.inr (Or.inr (Or.inr (Or.inr (Or.inr (Or.inr (Or.inr (Or.inr (Or.inl (by omega))))))))))))))) fσ26 (fun i k h => by (try dsimp only at h); exact Or.inr (Or.inr (Or.inr (Or.inr (Or.inr (Or.inr (Or.inr (Or.inr (Or.inr (Or.inr (Or.inl (by omega)))))))))))) (fun i h => h.elim)) fσ27 (fun i k h => by (try dsimp only at h); exact Or.inr (Or.inr (Or.inr (Or.inr (Or.inr (Or.inr (Or.inr (Or.inr (Or.inr (Or.inr (Or.inr (Or.inl (by omega))))))))))))) (fun i h => h.elim)) f30 (fun i k h => h.elim) (fun i h => by (try dsimp only at h); rcases h with h | h; exact Or.inr (Or.inr (Or.inr (Or.inr (Or.inr (Or.inr (Or.inr (Or.inr (Or.inr (Or.inr (Or.inr (Or.inr (Or.inr (Or.inl (by omega)))))))))))))); exact Or.inr (Or.inr (Or.inr (Or.inr (Or.inr (Or.inr (Or.inr (Or.inr (Or.inr (Or.inr (Or.inr (Or.inr (Or.inr (Or.inr ((by omega))))))))))))))))) fσ31 (fun i k h => by (try dsimp only at h); exact Or.inr (Or.inr (Or.inr (Or.inr (Or.inr (Or.inr (Or.inr (Or.inr (Or.inr (Or.inr (Or.inr (Or.inr ((by omega)))))))))))))) (fun i h => h.elim)), Or.inl rfl⟩
    · skip
      have c32 := wt_nceq h11
      refine wt_T_some ?_
      exact ⟨wt_fr.rf, (by (try dsimp only); omega)⟩
  · skip
    have c33 := wt_ncl h3
    have b34 := wt_bd (wt_gf σ 1 2)
    refine wt_T_if (fun h35 => ?_) (fun h35 => ?_)
    · skip
      have c36 := wt_cle h35
      unfold wp_ap_tongue_B20
      have b37 := wt_bd n
      refine wt_T_bi (wq_ap_refuse n hn (0 : Int32) σ) (fun q38 h39 => ?_)
      have e40 := h39
      rw [e40]
      have b41 := wt_bd q38.1
      refine wt_T_if (fun h42 => ?_) (fun h42 => ?_)
      · skip
        have c43 := wt_ceq h42
        refine wt_T_bi (wq_tp_begin n hn x1 σ) (fun q44 h45 => ?_)
        have f46 := h45
        refine wt_T_bi (wq_tg_fill n hn 27 q44) (fun q47 h48 => ?_)
        have f49 := h48
        have b50 := wt_bd q47.1
        refine wt_T_if (fun h51 => ?_) (fun h51 => ?_)
        · skip
          have c52 := wt_ceq h51
          refine wt_T_some ?_
          exact ⟨(wt_fr.tr (wt_fr.tr wt_fr.rf f46 (fun i k h => by (try dsimp only at h); rcases h with h | h | h | h | h | h; exact Or.inl (by omega); exact Or.inr (Or.inl (by omega)); exact Or.inr (Or.inr (Or.inl (by omega))); exact Or.inr (Or.inr (Or.inr (Or.inl (by omega)))); exact Or.inr (Or.inr (Or.inr (Or.inr (Or.inl (by omega))))); exact Or.inr (Or.inr (Or.inr (Or.inr (Or.inr (Or.inl (by omega))))))) (fun i h => h.elim)) f49 (fun i k h => by (try dsimp only at h); rcases h with h | h | h | h | h | h; exact Or.inr (Or.inr (Or.inr (Or.inr (Or.inr (Or.inr (Or.inl (by omega))))))); exact Or.inr (Or.inr (Or.inr (Or.inr (Or.inr (Or.inr (Or.inr (Or.inl (by omega)))))))); exact Or.inr (Or.inr (Or.inr (Or.inl (by omega)))); exact Or.inr (Or.inr (Or.inl (by omega))); exact Or.inr (Or.inr (Or.inr (Or.inr (Or.inl (by omega))))); exact Or.inr (Or.inr (Or.inr (Or.inr (Or.inr (Or.inl (by omega))))))) (fun i h => by (try dsimp only at h); rcases h with h | h | h | h | h | h | h; exact Or.inl (by omega); exact Or.inr (Or.inl (by omega)); exact Or.inr (Or.inr (Or.inl (by omega))); exact Or.inr (Or.inr (Or.inr (Or.inl (by omega)))); exact Or.inr (Or.inr (Or.inr (Or.inr (Or.inl (by omega))))); exact Or.inr (Or.inr (Or.inr (Or.inr (Or.inr (Or.inl (by omega)))))); exact Or.inr (Or.inr (Or.inr (Or.inr (Or.inr (Or.inr (Or.inl (by omega))))))))), Or.inl rfl⟩
        · skip
          have c53 := wt_nceq h51
          refine wt_T_bi (wq_tg_become n hn 20 27 q47.2) (fun q54 h55 => ?_)
          have f56 := h55
          obtain ⟨σ57, eσ57⟩ : ∃ z : wt_St, z = wt_sf q54 34 4 (0 : Int32) := ⟨_, rfl⟩
          rw [← eσ57]
          have fσ57 := wt_fr_sf eσ57
          have vσ57 := wt_ceq (wt_v_sf eσ57)
          obtain ⟨σ58, eσ58⟩ : ∃ z : wt_St, z = wt_sf σ57 39 8 (0 : Int32) := ⟨_, rfl⟩
          rw [← eσ58]
          have fσ58 := wt_fr_sf eσ58
          have vσ58 := wt_ceq (wt_v_sf eσ58)
          refine wt_T_bi (wq_st_clearPages n hn 39 σ58) (fun q59 h60 => ?_)
          have f61 := h60
          obtain ⟨σ62, eσ62⟩ : ∃ z : wt_St, z = wt_sf q59 0 14 (0 : Int32) := ⟨_, rfl⟩
          rw [← eσ62]
          have fσ62 := wt_fr_sf eσ62
          have vσ62 := wt_ceq (wt_v_sf eσ62)
          refine wt_T_some ?_
          exact ⟨(wt_fr.tr (wt_fr.tr (wt_fr.tr (wt_fr.tr (wt_fr.tr (wt_fr.tr (wt_fr.tr wt_fr.rf f46 (fun i k h => by (try dsimp only at h); rcases h with h | h | h | h | h | h; exact Or.inl (by omega); exact Or.inr (Or.inl (by omega)); exact Or.inr (Or.inr (Or.inl (by omega))); exact Or.inr (Or.inr (Or.inr (Or.inl (by omega)))); exact Or.inr (Or.inr (Or.inr (Or.inr (Or.inl (by omega))))); exact Or.inr (Or.inr (Or.inr (Or.inr (Or.inr (Or.inl (by omega))))))) (fun i h => h.elim)) f49 (fun i k h => by (try dsimp only at h); rcases h with h | h | h | h | h | h; exact Or.inr (Or.inr (Or.inr (Or.inr (Or.inr (Or.inr (Or.inl (by omega))))))); exact Or.inr (Or.inr (Or.inr (Or.inr (Or.inr (Or.inr (Or.inr (Or.inl (by omega)))))))); exact Or.inr (Or.inr (Or.inr (Or.inl (by omega)))); exact Or.inr (Or.inr (Or.inl (by omega))); exact Or.inr (Or.inr (Or.inr (Or.inr (Or.inl (by omega))))); exact Or.inr (Or.inr (Or.inr (Or.inr (Or.inr (Or.inl (by omega))))))) (fun i h => by (try dsimp only at h); rcases h with h | h | h | h | h | h | h; exact Or.inl (by omega); exact Or.inr (Or.inl (by omega)); exact Or.inr (Or.inr (Or.inl (by omega))); exact Or.inr (Or.inr (Or.inr (Or.inl (by omega)))); exact Or.inr (Or.inr (Or.inr (Or.inr (Or.inl (by omega))))); exact Or.inr (Or.inr (Or.inr (Or.inr (Or.inr (Or.inl (by omega)))))); exact Or.inr (Or.inr (Or.inr (Or.inr (Or.inr (Or.inr (Or.inl (by omega))))))))) f56 (fun i k h => by (try dsimp only at h); rcases h with h | h; exact Or.inr (Or.inr (Or.inr (Or.inr (Or.inr (Or.inr (Or.inr (Or.inr (Or.inl (by omega))))))))); exact Or.inr (Or.inr (Or.inr (Or.inr (Or.inr (Or.inr (Or.inr (Or.inr (Or.inr (Or.inl (by omega))))))))))) (fun i h => by (try dsimp only at h); rcases h with h | h | h | h | h | h; exact Or.inr (Or.inr (Or.inr (Or.inr (Or.inr (Or.inr (Or.inr (Or.inl (by omega)))))))); exact Or.inr (Or.inr (Or.inr (Or.inr (Or.inr (Or.inr (Or.inr (Or.inr (Or.inl (by omega))))))))); exact Or.inr (Or.inr (Or.inr (Or.inr (Or.inr (Or.inr (Or.inr (Or.inr (Or.inr (Or.inl (by omega)))))))))); exact Or.inr (Or.inr (Or.inr (Or.inr (Or.inr (Or.inr (Or.inr (Or.inr (Or.inr (Or.inr (Or.inl (by omega))))))))))); exact Or.inr (Or.inr (Or.inr (Or.inr (Or.inr (Or.inr (Or.inr (Or.inr (Or.inr (Or.inr (Or.inr (Or.inl (by omega)))))))))))); exact Or.inr (Or.inr (Or.inr (Or.inr (Or.inr (Or.inr (Or.inr (Or.inr (Or.inr (Or.inr (Or.inr (Or.inr (Or.inl (by omega))))))))))))))) fσ57 (fun i k h => by (try dsimp only at h); exact Or.inr (Or.inr (Or.inr (Or.inr (Or.inr (Or.inr (Or.inr (Or.inr (Or.inr (Or.inr (Or.inl (by omega)))))))))))) (fun i h => h.elim)) fσ58 (fun i k h => by (try dsimp only at h); exact Or.inr (Or.inr (Or.inr (Or.inr (Or.inr (Or.inr (Or.inr (Or.inr (Or.inr (Or.inr (Or.inr (Or.inl (by omega))))))))))))) (fun i h => h.elim)) f61 (fun i k h => h.elim) (fun i h => by (try dsimp only at h); rcases h with h | h; exact Or.inr (Or.inr (Or.inr (Or.inr (Or.inr (Or.inr (Or.inr (Or.inr (Or.inr (Or.inr (Or.inr (Or.inr (Or.inr (Or.inl (by omega)))))))))))))); exact Or.inr (Or.inr (Or.inr (Or.inr (Or.inr (Or.inr (Or.inr (Or.inr (Or.inr (Or.inr (Or.inr (Or.inr (Or.inr (Or.inr ((by omega))))))))))))))))) fσ62 (fun i k h => by (try dsimp only at h); exact Or.inr (Or.inr (Or.inr (Or.inr (Or.inr (Or.inr (Or.inr (Or.inr (Or.inr (Or.inr (Or.inr (Or.inr ((by omega)))))))))))))) (fun i h => h.elim)), Or.inl rfl⟩
      · skip
        have c63 := wt_nceq h42
        refine wt_T_some ?_
        exact ⟨wt_fr.rf, (by (try dsimp only); omega)⟩
    · skip
      have c64 := wt_ncle h35
      unfold wp_ap_tongue_B15
      unfold wp_ap_tongue_B20
      have b65 := wt_bd n
      have k66 : (1 : Int32).toInt = 1 := by decide
      refine wt_T_bi (wq_ap_refuse n hn (1 : Int32) σ) (fun q67 h68 => ?_)
      have e69 := h68
      rw [e69]
      have b70 := wt_bd q67.1
      refine wt_T_if (fun h71 => ?_) (fun h71 => ?_)
      · skip
        have c72 := wt_ceq h71
        refine wt_T_bi (wq_tp_begin n hn x1 σ) (fun q73 h74 => ?_)
        have f75 := h74
        refine wt_T_bi (wq_tg_fill n hn 27 q73) (fun q76 h77 => ?_)
        have f78 := h77
        have b79 := wt_bd q76.1
        refine wt_T_if (fun h80 => ?_) (fun h80 => ?_)
        · skip
          have c81 := wt_ceq h80
          refine wt_T_some ?_
          exact ⟨(wt_fr.tr (wt_fr.tr wt_fr.rf f75 (fun i k h => by (try dsimp only at h); rcases h with h | h | h | h | h | h; exact Or.inl (by omega); exact Or.inr (Or.inl (by omega)); exact Or.inr (Or.inr (Or.inl (by omega))); exact Or.inr (Or.inr (Or.inr (Or.inl (by omega)))); exact Or.inr (Or.inr (Or.inr (Or.inr (Or.inl (by omega))))); exact Or.inr (Or.inr (Or.inr (Or.inr (Or.inr (Or.inl (by omega))))))) (fun i h => h.elim)) f78 (fun i k h => by (try dsimp only at h); rcases h with h | h | h | h | h | h; exact Or.inr (Or.inr (Or.inr (Or.inr (Or.inr (Or.inr (Or.inl (by omega))))))); exact Or.inr (Or.inr (Or.inr (Or.inr (Or.inr (Or.inr (Or.inr (Or.inl (by omega)))))))); exact Or.inr (Or.inr (Or.inr (Or.inl (by omega)))); exact Or.inr (Or.inr (Or.inl (by omega))); exact Or.inr (Or.inr (Or.inr (Or.inr (Or.inl (by omega))))); exact Or.inr (Or.inr (Or.inr (Or.inr (Or.inr (Or.inl (by omega))))))) (fun i h => by (try dsimp only at h); rcases h with h | h | h | h | h | h | h; exact Or.inl (by omega); exact Or.inr (Or.inl (by omega)); exact Or.inr (Or.inr (Or.inl (by omega))); exact Or.inr (Or.inr (Or.inr (Or.inl (by omega)))); exact Or.inr (Or.inr (Or.inr (Or.inr (Or.inl (by omega))))); exact Or.inr (Or.inr (Or.inr (Or.inr (Or.inr (Or.inl (by omega)))))); exact Or.inr (Or.inr (Or.inr (Or.inr (Or.inr (Or.inr (Or.inl (by omega))))))))), Or.inl rfl⟩
        · skip
          have c82 := wt_nceq h80
          refine wt_T_bi (wq_tg_become n hn 20 27 q76.2) (fun q83 h84 => ?_)
          have f85 := h84
          obtain ⟨σ86, eσ86⟩ : ∃ z : wt_St, z = wt_sf q83 34 4 (0 : Int32) := ⟨_, rfl⟩
          rw [← eσ86]
          have fσ86 := wt_fr_sf eσ86
          have vσ86 := wt_ceq (wt_v_sf eσ86)
          obtain ⟨σ87, eσ87⟩ : ∃ z : wt_St, z = wt_sf σ86 39 8 (0 : Int32) := ⟨_, rfl⟩
          rw [← eσ87]
          have fσ87 := wt_fr_sf eσ87
          have vσ87 := wt_ceq (wt_v_sf eσ87)
          refine wt_T_bi (wq_st_clearPages n hn 39 σ87) (fun q88 h89 => ?_)
          have f90 := h89
          obtain ⟨σ91, eσ91⟩ : ∃ z : wt_St, z = wt_sf q88 0 14 (0 : Int32) := ⟨_, rfl⟩
          rw [← eσ91]
          have fσ91 := wt_fr_sf eσ91
          have vσ91 := wt_ceq (wt_v_sf eσ91)
          refine wt_T_some ?_
          exact ⟨(wt_fr.tr (wt_fr.tr (wt_fr.tr (wt_fr.tr (wt_fr.tr (wt_fr.tr (wt_fr.tr wt_fr.rf f75 (fun i k h => by (try dsimp only at h); rcases h with h | h | h | h | h | h; exact Or.inl (by omega); exact Or.inr (Or.inl (by omega)); exact Or.inr (Or.inr (Or.inl (by omega))); exact Or.inr (Or.inr (Or.inr (Or.inl (by omega)))); exact Or.inr (Or.inr (Or.inr (Or.inr (Or.inl (by omega))))); exact Or.inr (Or.inr (Or.inr (Or.inr (Or.inr (Or.inl (by omega))))))) (fun i h => h.elim)) f78 (fun i k h => by (try dsimp only at h); rcases h with h | h | h | h | h | h; exact Or.inr (Or.inr (Or.inr (Or.inr (Or.inr (Or.inr (Or.inl (by omega))))))); exact Or.inr (Or.inr (Or.inr (Or.inr (Or.inr (Or.inr (Or.inr (Or.inl (by omega)))))))); exact Or.inr (Or.inr (Or.inr (Or.inl (by omega)))); exact Or.inr (Or.inr (Or.inl (by omega))); exact Or.inr (Or.inr (Or.inr (Or.inr (Or.inl (by omega))))); exact Or.inr (Or.inr (Or.inr (Or.inr (Or.inr (Or.inl (by omega))))))) (fun i h => by (try dsimp only at h); rcases h with h | h | h | h | h | h | h; exact Or.inl (by omega); exact Or.inr (Or.inl (by omega)); exact Or.inr (Or.inr (Or.inl (by omega))); exact Or.inr (Or.inr (Or.inr (Or.inl (by omega)))); exact Or.inr (Or.inr (Or.inr (Or.inr (Or.inl (by omega))))); exact Or.inr (Or.inr (Or.inr (Or.inr (Or.inr (Or.inl (by omega)))))); exact Or.inr (Or.inr (Or.inr (Or.inr (Or.inr (Or.inr (Or.inl (by omega))))))))) f85 (fun i k h => by (try dsimp only at h); rcases h with h | h; exact Or.inr (Or.inr (Or.inr (Or.inr (Or.inr (Or.inr (Or.inr (Or.inr (Or.inl (by omega))))))))); exact Or.inr (Or.inr (Or.inr (Or.inr (Or.inr (Or.inr (Or.inr (Or.inr (Or.inr (Or.inl (by omega))))))))))) (fun i h => by (try dsimp only at h); rcases h with h | h | h | h | h | h; exact Or.inr (Or.inr (Or.inr (Or.inr (Or.inr (Or.inr (Or.inr (Or.inl (by omega)))))))); exact Or.inr (Or.inr (Or.inr (Or.inr (Or.inr (Or.inr (Or.inr (Or.inr (Or.inl (by omega))))))))); exact Or.inr (Or.inr (Or.inr (Or.inr (Or.inr (Or.inr (Or.inr (Or.inr (Or.inr (Or.inl (by omega)))))))))); exact Or.inr (Or.inr (Or.inr (Or.inr (Or.inr (Or.inr (Or.inr (Or.inr (Or.inr (Or.inr (Or.inl (by omega))))))))))); exact Or.inr (Or.inr (Or.inr (Or.inr (Or.inr (Or.inr (Or.inr (Or.inr (Or.inr (Or.inr (Or.inr (Or.inl (by omega)))))))))))); exact Or.inr (Or.inr (Or.inr (Or.inr (Or.inr (Or.inr (Or.inr (Or.inr (Or.inr (Or.inr (Or.inr (Or.inr (Or.inl (by omega))))))))))))))) fσ86 (fun i k h => by (try dsimp only at h); exact Or.inr (Or.inr (Or.inr (Or.inr (Or.inr (Or.inr (Or.inr (Or.inr (Or.inr (Or.inr (Or.inl (by omega)))))))))))) (fun i h => h.elim)) fσ87 (fun i k h => by (try dsimp only at h); exact Or.inr (Or.inr (Or.inr (Or.inr (Or.inr (Or.inr (Or.inr (Or.inr (Or.inr (Or.inr (Or.inr (Or.inl (by omega))))))))))))) (fun i h => h.elim)) f90 (fun i k h => h.elim) (fun i h => by (try dsimp only at h); rcases h with h | h; exact Or.inr (Or.inr (Or.inr (Or.inr (Or.inr (Or.inr (Or.inr (Or.inr (Or.inr (Or.inr (Or.inr (Or.inr (Or.inr (Or.inl (by omega)))))))))))))); exact Or.inr (Or.inr (Or.inr (Or.inr (Or.inr (Or.inr (Or.inr (Or.inr (Or.inr (Or.inr (Or.inr (Or.inr (Or.inr (Or.inr ((by omega))))))))))))))))) fσ91 (fun i k h => by (try dsimp only at h); exact Or.inr (Or.inr (Or.inr (Or.inr (Or.inr (Or.inr (Or.inr (Or.inr (Or.inr (Or.inr (Or.inr (Or.inr ((by omega)))))))))))))) (fun i h => h.elim)), Or.inl rfl⟩
      · skip
        have c92 := wt_nceq h71
        refine wt_T_some ?_
        exact ⟨wt_fr.rf, (by (try dsimp only); omega)⟩
set_option maxRecDepth 100000 in
set_option maxHeartbeats 4000000 in
theorem wq_ap_want (n : Nat) (hn : 4294967297 < n) (x1 : Int32) (x2 : Int32) (x3 : Int32) (x4 : Int32) (σ : wt_St) : wt_T (wp_ap_want n x1 x2 x3 x4 σ) (fun q => wt_fr (fun i k => (i = 39 ∧ k = 8)) (fun i => i = 44 ∨ i = 45 ∨ i = 46 ∨ i = 47) σ q.2.2 ∧ (q.1 = 0 ∨ q.1 = 1 ∨ q.1 = 2)) := by
  unfold wp_ap_want
  have b1 := wt_bd n
  have b2 := wt_bd x1
  refine wt_T_bi (wq_tx_has n hn x1 σ) (fun q3 h4 => ?_)
  have e5 := h4
  rw [e5]
  have b6 := wt_bd q3.1
  have k7 : (0 : Int32).toInt = 0 := by decide
  refine wt_T_if (fun h8 => ?_) (fun h8 => ?_)
  · skip
    have c9 := wt_ceq h8
    unfold wp_ap_want_B16
    have k10 : (1 : Int32).toInt = 1 := by decide
    refine wt_T_bi (wq_ap_miss n hn (1 : Int32) σ) (fun q11 h12 => ?_)
    have e13 := h12
    rw [e13]
    have b14 := wt_bd q11.1
    refine wt_T_if (fun h15 => ?_) (fun h15 => ?_)
    · skip
      have c16 := wt_ceq h15
      have b17 := wt_bd x2
      refine wt_T_bi (wq_ap_refuseCopies n hn x2 σ) (fun q18 h19 => ?_)
      have e20 := h19
      rw [e20]
      have b21 := wt_bd q18.1
      refine wt_T_if (fun h22 => ?_) (fun h22 => ?_)
      · skip
        have c23 := wt_ceq h22
        have b24 := wt_bd x3
        refine wt_T_if (fun h25 => ?_) (fun h25 => ?_)
        · skip
          have c26 := wt_clt h25
          unfold wp_ap_want_B33
          unfold wp_ap_want_B38
          refine wt_T_bi (wq_ap_refuse n hn (1 : Int32) σ) (fun q27 h28 => ?_)
          have e29 := h28
          rw [e29]
          have b30 := wt_bd q27.1
          refine wt_T_if (fun h31 => ?_) (fun h31 => ?_)
          · skip
            have c32 := wt_ceq h31
            have b33 := wt_bd x4
            refine wt_T_if (fun h34 => ?_) (fun h34 => ?_)
            · skip
              have c35 := wt_clt h34
              unfold wp_ap_want_B55
              unfold wp_ap_want_B60
              refine wt_T_bi (wq_ap_refuse n hn (1 : Int32) σ) (fun q36 h37 => ?_)
              have e38 := h37
              rw [e38]
              have b39 := wt_bd q36.1
              refine wt_T_if (fun h40 => ?_) (fun h40 => ?_)
              · skip
                have c41 := wt_ceq h40
                have b42 := wt_bd (wt_gf σ 39 8)
                have k43 : (10 : Int32).toInt = 10 := by decide
                refine wt_T_if (fun h44 => ?_) (fun h44 => ?_)
                · skip
                  have c45 := wt_clt h44
                  refine wt_T_bi (wq_st_addWanted n hn 39 x1 x2 x3 x4 σ) (fun q46 h47 => ?_)
                  have f48 := h47
                  refine wt_T_some ?_
                  exact ⟨(wt_fr.tr wt_fr.rf f48 (fun i k h => by (try dsimp only at h); exact (by omega)) (fun i h => by (try dsimp only at h); rcases h with h | h | h | h; exact Or.inl (by omega); exact Or.inr (Or.inl (by omega)); exact Or.inr (Or.inr (Or.inl (by omega))); exact Or.inr (Or.inr (Or.inr ((by omega)))))), Or.inl rfl⟩
                · skip
                  have c49 := wt_ncl h44
                  refine wt_T_some ?_
                  exact ⟨wt_fr.rf, Or.inl rfl⟩
              · skip
                have c50 := wt_nceq h40
                refine wt_T_some ?_
                exact ⟨wt_fr.rf, (by (try dsimp only); omega)⟩
            · skip
              have c51 := wt_ncl h34
              have k52 : (999 : Int32).toInt = 999 := by decide
              refine wt_T_if (fun h53 => ?_) (fun h53 => ?_)
              · skip
                have c54 := wt_cle h53
                unfold wp_ap_want_B60
                refine wt_T_bi (wq_ap_refuse n hn (0 : Int32) σ) (fun q55 h56 => ?_)
                have e57 := h56
                rw [e57]
                have b58 := wt_bd q55.1
                refine wt_T_if (fun h59 => ?_) (fun h59 => ?_)
                · skip
                  have c60 := wt_ceq h59
                  have b61 := wt_bd (wt_gf σ 39 8)
                  have k62 : (10 : Int32).toInt = 10 := by decide
                  refine wt_T_if (fun h63 => ?_) (fun h63 => ?_)
                  · skip
                    have c64 := wt_clt h63
                    refine wt_T_bi (wq_st_addWanted n hn 39 x1 x2 x3 x4 σ) (fun q65 h66 => ?_)
                    have f67 := h66
                    refine wt_T_some ?_
                    exact ⟨(wt_fr.tr wt_fr.rf f67 (fun i k h => by (try dsimp only at h); exact (by omega)) (fun i h => by (try dsimp only at h); rcases h with h | h | h | h; exact Or.inl (by omega); exact Or.inr (Or.inl (by omega)); exact Or.inr (Or.inr (Or.inl (by omega))); exact Or.inr (Or.inr (Or.inr ((by omega)))))), Or.inl rfl⟩
                  · skip
                    have c68 := wt_ncl h63
                    refine wt_T_some ?_
                    exact ⟨wt_fr.rf, Or.inl rfl⟩
                · skip
                  have c69 := wt_nceq h59
                  refine wt_T_some ?_
                  exact ⟨wt_fr.rf, (by (try dsimp only); omega)⟩
              · skip
                have c70 := wt_ncle h53
                unfold wp_ap_want_B55
                unfold wp_ap_want_B60
                refine wt_T_bi (wq_ap_refuse n hn (1 : Int32) σ) (fun q71 h72 => ?_)
                have e73 := h72
                rw [e73]
                have b74 := wt_bd q71.1
                refine wt_T_if (fun h75 => ?_) (fun h75 => ?_)
                · skip
                  have c76 := wt_ceq h75
                  have b77 := wt_bd (wt_gf σ 39 8)
                  have k78 : (10 : Int32).toInt = 10 := by decide
                  refine wt_T_if (fun h79 => ?_) (fun h79 => ?_)
                  · skip
                    have c80 := wt_clt h79
                    refine wt_T_bi (wq_st_addWanted n hn 39 x1 x2 x3 x4 σ) (fun q81 h82 => ?_)
                    have f83 := h82
                    refine wt_T_some ?_
                    exact ⟨(wt_fr.tr wt_fr.rf f83 (fun i k h => by (try dsimp only at h); exact (by omega)) (fun i h => by (try dsimp only at h); rcases h with h | h | h | h; exact Or.inl (by omega); exact Or.inr (Or.inl (by omega)); exact Or.inr (Or.inr (Or.inl (by omega))); exact Or.inr (Or.inr (Or.inr ((by omega)))))), Or.inl rfl⟩
                  · skip
                    have c84 := wt_ncl h79
                    refine wt_T_some ?_
                    exact ⟨wt_fr.rf, Or.inl rfl⟩
                · skip
                  have c85 := wt_nceq h75
                  refine wt_T_some ?_
                  exact ⟨wt_fr.rf, (by (try dsimp only); omega)⟩
          · skip
            have c86 := wt_nceq h31
            refine wt_T_some ?_
            exact ⟨wt_fr.rf, (by (try dsimp only); omega)⟩
        · skip
          have c87 := wt_ncl h25
          have k88 : (100 : Int32).toInt = 100 := by decide
          refine wt_T_if (fun h89 => ?_) (fun h89 => ?_)
          · skip
            have c90 := wt_clt h89
            unfold wp_ap_want_B38
            refine wt_T_bi (wq_ap_refuse n hn (0 : Int32) σ) (fun q91 h92 => ?_)
            have e93 := h92
            rw [e93]
            have b94 := wt_bd q91.1
            refine wt_T_if (fun h95 => ?_) (fun h95 => ?_)
            · skip
              have c96 := wt_ceq h95
              have b97 := wt_bd x4
              refine wt_T_if (fun h98 => ?_) (fun h98 => ?_)
              · skip
                have c99 := wt_clt h98
                unfold wp_ap_want_B55
                unfold wp_ap_want_B60
                refine wt_T_bi (wq_ap_refuse n hn (1 : Int32) σ) (fun q100 h101 => ?_)
                have e102 := h101
                rw [e102]
                have b103 := wt_bd q100.1
                refine wt_T_if (fun h104 => ?_) (fun h104 => ?_)
                · skip
                  have c105 := wt_ceq h104
                  have b106 := wt_bd (wt_gf σ 39 8)
                  have k107 : (10 : Int32).toInt = 10 := by decide
                  refine wt_T_if (fun h108 => ?_) (fun h108 => ?_)
                  · skip
                    have c109 := wt_clt h108
                    refine wt_T_bi (wq_st_addWanted n hn 39 x1 x2 x3 x4 σ) (fun q110 h111 => ?_)
                    have f112 := h111
                    refine wt_T_some ?_
                    exact ⟨(wt_fr.tr wt_fr.rf f112 (fun i k h => by (try dsimp only at h); exact (by omega)) (fun i h => by (try dsimp only at h); rcases h with h | h | h | h; exact Or.inl (by omega); exact Or.inr (Or.inl (by omega)); exact Or.inr (Or.inr (Or.inl (by omega))); exact Or.inr (Or.inr (Or.inr ((by omega)))))), Or.inl rfl⟩
                  · skip
                    have c113 := wt_ncl h108
                    refine wt_T_some ?_
                    exact ⟨wt_fr.rf, Or.inl rfl⟩
                · skip
                  have c114 := wt_nceq h104
                  refine wt_T_some ?_
                  exact ⟨wt_fr.rf, (by (try dsimp only); omega)⟩
              · skip
                have c115 := wt_ncl h98
                have k116 : (999 : Int32).toInt = 999 := by decide
                refine wt_T_if (fun h117 => ?_) (fun h117 => ?_)
                · skip
                  have c118 := wt_cle h117
                  unfold wp_ap_want_B60
                  refine wt_T_bi (wq_ap_refuse n hn (0 : Int32) σ) (fun q119 h120 => ?_)
                  have e121 := h120
                  rw [e121]
                  have b122 := wt_bd q119.1
                  refine wt_T_if (fun h123 => ?_) (fun h123 => ?_)
                  · skip
                    have c124 := wt_ceq h123
                    have b125 := wt_bd (wt_gf σ 39 8)
                    have k126 : (10 : Int32).toInt = 10 := by decide
                    refine wt_T_if (fun h127 => ?_) (fun h127 => ?_)
                    · skip
                      have c128 := wt_clt h127
                      refine wt_T_bi (wq_st_addWanted n hn 39 x1 x2 x3 x4 σ) (fun q129 h130 => ?_)
                      have f131 := h130
                      refine wt_T_some ?_
                      exact ⟨(wt_fr.tr wt_fr.rf f131 (fun i k h => by (try dsimp only at h); exact (by omega)) (fun i h => by (try dsimp only at h); rcases h with h | h | h | h; exact Or.inl (by omega); exact Or.inr (Or.inl (by omega)); exact Or.inr (Or.inr (Or.inl (by omega))); exact Or.inr (Or.inr (Or.inr ((by omega)))))), Or.inl rfl⟩
                    · skip
                      have c132 := wt_ncl h127
                      refine wt_T_some ?_
                      exact ⟨wt_fr.rf, Or.inl rfl⟩
                  · skip
                    have c133 := wt_nceq h123
                    refine wt_T_some ?_
                    exact ⟨wt_fr.rf, (by (try dsimp only); omega)⟩
                · skip
                  have c134 := wt_ncle h117
                  unfold wp_ap_want_B55
                  unfold wp_ap_want_B60
                  refine wt_T_bi (wq_ap_refuse n hn (1 : Int32) σ) (fun q135 h136 => ?_)
                  have e137 := h136
                  rw [e137]
                  have b138 := wt_bd q135.1
                  refine wt_T_if (fun h139 => ?_) (fun h139 => ?_)
                  · skip
                    have c140 := wt_ceq h139
                    have b141 := wt_bd (wt_gf σ 39 8)
                    have k142 : (10 : Int32).toInt = 10 := by decide
                    refine wt_T_if (fun h143 => ?_) (fun h143 => ?_)
                    · skip
                      have c144 := wt_clt h143
                      refine wt_T_bi (wq_st_addWanted n hn 39 x1 x2 x3 x4 σ) (fun q145 h146 => ?_)
                      have f147 := h146
                      refine wt_T_some ?_
                      exact ⟨(wt_fr.tr wt_fr.rf f147 (fun i k h => by (try dsimp only at h); exact (by omega)) (fun i h => by (try dsimp only at h); rcases h with h | h | h | h; exact Or.inl (by omega); exact Or.inr (Or.inl (by omega)); exact Or.inr (Or.inr (Or.inl (by omega))); exact Or.inr (Or.inr (Or.inr ((by omega)))))), Or.inl rfl⟩
                    · skip
                      have c148 := wt_ncl h143
                      refine wt_T_some ?_
                      exact ⟨wt_fr.rf, Or.inl rfl⟩
                  · skip
                    have c149 := wt_nceq h139
                    refine wt_T_some ?_
                    exact ⟨wt_fr.rf, (by (try dsimp only); omega)⟩
            · skip
              have c150 := wt_nceq h95
              refine wt_T_some ?_
              exact ⟨wt_fr.rf, (by (try dsimp only); omega)⟩
          · skip
            have c151 := wt_ncl h89
            unfold wp_ap_want_B33
            unfold wp_ap_want_B38
            refine wt_T_bi (wq_ap_refuse n hn (1 : Int32) σ) (fun q152 h153 => ?_)
            have e154 := h153
            rw [e154]
            have b155 := wt_bd q152.1
            refine wt_T_if (fun h156 => ?_) (fun h156 => ?_)
            · skip
              have c157 := wt_ceq h156
              have b158 := wt_bd x4
              refine wt_T_if (fun h159 => ?_) (fun h159 => ?_)
              · skip
                have c160 := wt_clt h159
                unfold wp_ap_want_B55
                unfold wp_ap_want_B60
                refine wt_T_bi (wq_ap_refuse n hn (1 : Int32) σ) (fun q161 h162 => ?_)
                have e163 := h162
                rw [e163]
                have b164 := wt_bd q161.1
                refine wt_T_if (fun h165 => ?_) (fun h165 => ?_)
                · skip
                  have c166 := wt_ceq h165
                  have b167 := wt_bd (wt_gf σ 39 8)
                  have k168 : (10 : Int32).toInt = 10 := by decide
                  refine wt_T_if (fun h169 => ?_) (fun h169 => ?_)
                  · skip
                    have c170 := wt_clt h169
                    refine wt_T_bi (wq_st_addWanted n hn 39 x1 x2 x3 x4 σ) (fun q171 h172 => ?_)
                    have f173 := h172
                    refine wt_T_some ?_
                    exact ⟨(wt_fr.tr wt_fr.rf f173 (fun i k h => by (try dsimp only at h); exact (by omega)) (fun i h => by (try dsimp only at h); rcases h with h | h | h | h; exact Or.inl (by omega); exact Or.inr (Or.inl (by omega)); exact Or.inr (Or.inr (Or.inl (by omega))); exact Or.inr (Or.inr (Or.inr ((by omega)))))), Or.inl rfl⟩
                  · skip
                    have c174 := wt_ncl h169
                    refine wt_T_some ?_
                    exact ⟨wt_fr.rf, Or.inl rfl⟩
                · skip
                  have c175 := wt_nceq h165
                  refine wt_T_some ?_
                  exact ⟨wt_fr.rf, (by (try dsimp only); omega)⟩
              · skip
                have c176 := wt_ncl h159
                have k177 : (999 : Int32).toInt = 999 := by decide
                refine wt_T_if (fun h178 => ?_) (fun h178 => ?_)
                · skip
                  have c179 := wt_cle h178
                  unfold wp_ap_want_B60
                  refine wt_T_bi (wq_ap_refuse n hn (0 : Int32) σ) (fun q180 h181 => ?_)
                  have e182 := h181
                  rw [e182]
                  have b183 := wt_bd q180.1
                  refine wt_T_if (fun h184 => ?_) (fun h184 => ?_)
                  · skip
                    have c185 := wt_ceq h184
                    have b186 := wt_bd (wt_gf σ 39 8)
                    have k187 : (10 : Int32).toInt = 10 := by decide
                    refine wt_T_if (fun h188 => ?_) (fun h188 => ?_)
                    · skip
                      have c189 := wt_clt h188
                      refine wt_T_bi (wq_st_addWanted n hn 39 x1 x2 x3 x4 σ) (fun q190 h191 => ?_)
                      have f192 := h191
                      refine wt_T_some ?_
                      exact ⟨(wt_fr.tr wt_fr.rf f192 (fun i k h => by (try dsimp only at h); exact (by omega)) (fun i h => by (try dsimp only at h); rcases h with h | h | h | h; exact Or.inl (by omega); exact Or.inr (Or.inl (by omega)); exact Or.inr (Or.inr (Or.inl (by omega))); exact Or.inr (Or.inr (Or.inr ((by omega)))))), Or.inl rfl⟩
                    · skip
                      have c193 := wt_ncl h188
                      refine wt_T_some ?_
                      exact ⟨wt_fr.rf, Or.inl rfl⟩
                  · skip
                    have c194 := wt_nceq h184
                    refine wt_T_some ?_
                    exact ⟨wt_fr.rf, (by (try dsimp only); omega)⟩
                · skip
                  have c195 := wt_ncle h178
                  unfold wp_ap_want_B55
                  unfold wp_ap_want_B60
                  refine wt_T_bi (wq_ap_refuse n hn (1 : Int32) σ) (fun q196 h197 => ?_)
                  have e198 := h197
                  rw [e198]
                  have b199 := wt_bd q196.1
                  refine wt_T_if (fun h200 => ?_) (fun h200 => ?_)
                  · skip
                    have c201 := wt_ceq h200
                    have b202 := wt_bd (wt_gf σ 39 8)
                    have k203 : (10 : Int32).toInt = 10 := by decide
                    refine wt_T_if (fun h204 => ?_) (fun h204 => ?_)
                    · skip
                      have c205 := wt_clt h204
                      refine wt_T_bi (wq_st_addWanted n hn 39 x1 x2 x3 x4 σ) (fun q206 h207 => ?_)
                      have f208 := h207
                      refine wt_T_some ?_
                      exact ⟨(wt_fr.tr wt_fr.rf f208 (fun i k h => by (try dsimp only at h); exact (by omega)) (fun i h => by (try dsimp only at h); rcases h with h | h | h | h; exact Or.inl (by omega); exact Or.inr (Or.inl (by omega)); exact Or.inr (Or.inr (Or.inl (by omega))); exact Or.inr (Or.inr (Or.inr ((by omega)))))), Or.inl rfl⟩
                    · skip
                      have c209 := wt_ncl h204
                      refine wt_T_some ?_
                      exact ⟨wt_fr.rf, Or.inl rfl⟩
                  · skip
                    have c210 := wt_nceq h200
                    refine wt_T_some ?_
                    exact ⟨wt_fr.rf, (by (try dsimp only); omega)⟩
            · skip
              have c211 := wt_nceq h156
              refine wt_T_some ?_
              exact ⟨wt_fr.rf, (by (try dsimp only); omega)⟩
      · skip
        have c212 := wt_nceq h22
        refine wt_T_some ?_
        exact ⟨wt_fr.rf, (by (try dsimp only); omega)⟩
    · skip
      have c213 := wt_nceq h15
      refine wt_T_some ?_
      exact ⟨wt_fr.rf, (by (try dsimp only); omega)⟩
  · skip
    have c214 := wt_nceq h8
    unfold wp_ap_want_B16
    refine wt_T_bi (wq_ap_miss n hn (0 : Int32) σ) (fun q215 h216 => ?_)
    have e217 := h216
    rw [e217]
    have b218 := wt_bd q215.1
    refine wt_T_if (fun h219 => ?_) (fun h219 => ?_)
    · skip
      have c220 := wt_ceq h219
      have b221 := wt_bd x2
      refine wt_T_bi (wq_ap_refuseCopies n hn x2 σ) (fun q222 h223 => ?_)
      have e224 := h223
      rw [e224]
      have b225 := wt_bd q222.1
      refine wt_T_if (fun h226 => ?_) (fun h226 => ?_)
      · skip
        have c227 := wt_ceq h226
        have b228 := wt_bd x3
        refine wt_T_if (fun h229 => ?_) (fun h229 => ?_)
        · skip
          have c230 := wt_clt h229
          unfold wp_ap_want_B33
          unfold wp_ap_want_B38
          have k231 : (1 : Int32).toInt = 1 := by decide
          refine wt_T_bi (wq_ap_refuse n hn (1 : Int32) σ) (fun q232 h233 => ?_)
          have e234 := h233
          rw [e234]
          have b235 := wt_bd q232.1
          refine wt_T_if (fun h236 => ?_) (fun h236 => ?_)
          · skip
            have c237 := wt_ceq h236
            have b238 := wt_bd x4
            refine wt_T_if (fun h239 => ?_) (fun h239 => ?_)
            · skip
              have c240 := wt_clt h239
              unfold wp_ap_want_B55
              unfold wp_ap_want_B60
              refine wt_T_bi (wq_ap_refuse n hn (1 : Int32) σ) (fun q241 h242 => ?_)
              have e243 := h242
              rw [e243]
              have b244 := wt_bd q241.1
              refine wt_T_if (fun h245 => ?_) (fun h245 => ?_)
              · skip
                have c246 := wt_ceq h245
                have b247 := wt_bd (wt_gf σ 39 8)
                have k248 : (10 : Int32).toInt = 10 := by decide
                refine wt_T_if (fun h249 => ?_) (fun h249 => ?_)
                · skip
                  have c250 := wt_clt h249
                  refine wt_T_bi (wq_st_addWanted n hn 39 x1 x2 x3 x4 σ) (fun q251 h252 => ?_)
                  have f253 := h252
                  refine wt_T_some ?_
                  exact ⟨(wt_fr.tr wt_fr.rf f253 (fun i k h => by (try dsimp only at h); exact (by omega)) (fun i h => by (try dsimp only at h); rcases h with h | h | h | h; exact Or.inl (by omega); exact Or.inr (Or.inl (by omega)); exact Or.inr (Or.inr (Or.inl (by omega))); exact Or.inr (Or.inr (Or.inr ((by omega)))))), Or.inl rfl⟩
                · skip
                  have c254 := wt_ncl h249
                  refine wt_T_some ?_
                  exact ⟨wt_fr.rf, Or.inl rfl⟩
              · skip
                have c255 := wt_nceq h245
                refine wt_T_some ?_
                exact ⟨wt_fr.rf, (by (try dsimp only); omega)⟩
            · skip
              have c256 := wt_ncl h239
              have k257 : (999 : Int32).toInt = 999 := by decide
              refine wt_T_if (fun h258 => ?_) (fun h258 => ?_)
              · skip
                have c259 := wt_cle h258
                unfold wp_ap_want_B60
                refine wt_T_bi (wq_ap_refuse n hn (0 : Int32) σ) (fun q260 h261 => ?_)
                have e262 := h261
                rw [e262]
                have b263 := wt_bd q260.1
                refine wt_T_if (fun h264 => ?_) (fun h264 => ?_)
                · skip
                  have c265 := wt_ceq h264
                  have b266 := wt_bd (wt_gf σ 39 8)
                  have k267 : (10 : Int32).toInt = 10 := by decide
                  refine wt_T_if (fun h268 => ?_) (fun h268 => ?_)
                  · skip
                    have c269 := wt_clt h268
                    refine wt_T_bi (wq_st_addWanted n hn 39 x1 x2 x3 x4 σ) (fun q270 h271 => ?_)
                    have f272 := h271
                    refine wt_T_some ?_
                    exact ⟨(wt_fr.tr wt_fr.rf f272 (fun i k h => by (try dsimp only at h); exact (by omega)) (fun i h => by (try dsimp only at h); rcases h with h | h | h | h; exact Or.inl (by omega); exact Or.inr (Or.inl (by omega)); exact Or.inr (Or.inr (Or.inl (by omega))); exact Or.inr (Or.inr (Or.inr ((by omega)))))), Or.inl rfl⟩
                  · skip
                    have c273 := wt_ncl h268
                    refine wt_T_some ?_
                    exact ⟨wt_fr.rf, Or.inl rfl⟩
                · skip
                  have c274 := wt_nceq h264
                  refine wt_T_some ?_
                  exact ⟨wt_fr.rf, (by (try dsimp only); omega)⟩
              · skip
                have c275 := wt_ncle h258
                unfold wp_ap_want_B55
                unfold wp_ap_want_B60
                refine wt_T_bi (wq_ap_refuse n hn (1 : Int32) σ) (fun q276 h277 => ?_)
                have e278 := h277
                rw [e278]
                have b279 := wt_bd q276.1
                refine wt_T_if (fun h280 => ?_) (fun h280 => ?_)
                · skip
                  have c281 := wt_ceq h280
                  have b282 := wt_bd (wt_gf σ 39 8)
                  have k283 : (10 : Int32).toInt = 10 := by decide
                  refine wt_T_if (fun h284 => ?_) (fun h284 => ?_)
                  · skip
                    have c285 := wt_clt h284
                    refine wt_T_bi (wq_st_addWanted n hn 39 x1 x2 x3 x4 σ) (fun q286 h287 => ?_)
                    have f288 := h287
                    refine wt_T_some ?_
                    exact ⟨(wt_fr.tr wt_fr.rf f288 (fun i k h => by (try dsimp only at h); exact (by omega)) (fun i h => by (try dsimp only at h); rcases h with h | h | h | h; exact Or.inl (by omega); exact Or.inr (Or.inl (by omega)); exact Or.inr (Or.inr (Or.inl (by omega))); exact Or.inr (Or.inr (Or.inr ((by omega)))))), Or.inl rfl⟩
                  · skip
                    have c289 := wt_ncl h284
                    refine wt_T_some ?_
                    exact ⟨wt_fr.rf, Or.inl rfl⟩
                · skip
                  have c290 := wt_nceq h280
                  refine wt_T_some ?_
                  exact ⟨wt_fr.rf, (by (try dsimp only); omega)⟩
          · skip
            have c291 := wt_nceq h236
            refine wt_T_some ?_
            exact ⟨wt_fr.rf, (by (try dsimp only); omega)⟩
        · skip
          have c292 := wt_ncl h229
          have k293 : (100 : Int32).toInt = 100 := by decide
          refine wt_T_if (fun h294 => ?_) (fun h294 => ?_)
          · skip
            have c295 := wt_clt h294
            unfold wp_ap_want_B38
            refine wt_T_bi (wq_ap_refuse n hn (0 : Int32) σ) (fun q296 h297 => ?_)
            have e298 := h297
            rw [e298]
            have b299 := wt_bd q296.1
            refine wt_T_if (fun h300 => ?_) (fun h300 => ?_)
            · skip
              have c301 := wt_ceq h300
              have b302 := wt_bd x4
              have k303 : (1 : Int32).toInt = 1 := by decide
              refine wt_T_if (fun h304 => ?_) (fun h304 => ?_)
              · skip
                have c305 := wt_clt h304
                unfold wp_ap_want_B55
                unfold wp_ap_want_B60
                refine wt_T_bi (wq_ap_refuse n hn (1 : Int32) σ) (fun q306 h307 => ?_)
                have e308 := h307
                rw [e308]
                have b309 := wt_bd q306.1
                refine wt_T_if (fun h310 => ?_) (fun h310 => ?_)
                · skip
                  have c311 := wt_ceq h310
                  have b312 := wt_bd (wt_gf σ 39 8)
                  have k313 : (10 : Int32).toInt = 10 := by decide
                  refine wt_T_if (fun h314 => ?_) (fun h314 => ?_)
                  · skip
                    have c315 := wt_clt h314
                    refine wt_T_bi (wq_st_addWanted n hn 39 x1 x2 x3 x4 σ) (fun q316 h317 => ?_)
                    have f318 := h317
                    refine wt_T_some ?_
                    exact ⟨(wt_fr.tr wt_fr.rf f318 (fun i k h => by (try dsimp only at h); exact (by omega)) (fun i h => by (try dsimp only at h); rcases h with h | h | h | h; exact Or.inl (by omega); exact Or.inr (Or.inl (by omega)); exact Or.inr (Or.inr (Or.inl (by omega))); exact Or.inr (Or.inr (Or.inr ((by omega)))))), Or.inl rfl⟩
                  · skip
                    have c319 := wt_ncl h314
                    refine wt_T_some ?_
                    exact ⟨wt_fr.rf, Or.inl rfl⟩
                · skip
                  have c320 := wt_nceq h310
                  refine wt_T_some ?_
                  exact ⟨wt_fr.rf, (by (try dsimp only); omega)⟩
              · skip
                have c321 := wt_ncl h304
                have k322 : (999 : Int32).toInt = 999 := by decide
                refine wt_T_if (fun h323 => ?_) (fun h323 => ?_)
                · skip
                  have c324 := wt_cle h323
                  unfold wp_ap_want_B60
                  refine wt_T_bi (wq_ap_refuse n hn (0 : Int32) σ) (fun q325 h326 => ?_)
                  have e327 := h326
                  rw [e327]
                  have b328 := wt_bd q325.1
                  refine wt_T_if (fun h329 => ?_) (fun h329 => ?_)
                  · skip
                    have c330 := wt_ceq h329
                    have b331 := wt_bd (wt_gf σ 39 8)
                    have k332 : (10 : Int32).toInt = 10 := by decide
                    refine wt_T_if (fun h333 => ?_) (fun h333 => ?_)
                    · skip
                      have c334 := wt_clt h333
                      refine wt_T_bi (wq_st_addWanted n hn 39 x1 x2 x3 x4 σ) (fun q335 h336 => ?_)
                      have f337 := h336
                      refine wt_T_some ?_
                      exact ⟨(wt_fr.tr wt_fr.rf f337 (fun i k h => by (try dsimp only at h); exact (by omega)) (fun i h => by (try dsimp only at h); rcases h with h | h | h | h; exact Or.inl (by omega); exact Or.inr (Or.inl (by omega)); exact Or.inr (Or.inr (Or.inl (by omega))); exact Or.inr (Or.inr (Or.inr ((by omega)))))), Or.inl rfl⟩
                    · skip
                      have c338 := wt_ncl h333
                      refine wt_T_some ?_
                      exact ⟨wt_fr.rf, Or.inl rfl⟩
                  · skip
                    have c339 := wt_nceq h329
                    refine wt_T_some ?_
                    exact ⟨wt_fr.rf, (by (try dsimp only); omega)⟩
                · skip
                  have c340 := wt_ncle h323
                  unfold wp_ap_want_B55
                  unfold wp_ap_want_B60
                  refine wt_T_bi (wq_ap_refuse n hn (1 : Int32) σ) (fun q341 h342 => ?_)
                  have e343 := h342
                  rw [e343]
                  have b344 := wt_bd q341.1
                  refine wt_T_if (fun h345 => ?_) (fun h345 => ?_)
                  · skip
                    have c346 := wt_ceq h345
                    have b347 := wt_bd (wt_gf σ 39 8)
                    have k348 : (10 : Int32).toInt = 10 := by decide
                    refine wt_T_if (fun h349 => ?_) (fun h349 => ?_)
                    · skip
                      have c350 := wt_clt h349
                      refine wt_T_bi (wq_st_addWanted n hn 39 x1 x2 x3 x4 σ) (fun q351 h352 => ?_)
                      have f353 := h352
                      refine wt_T_some ?_
                      exact ⟨(wt_fr.tr wt_fr.rf f353 (fun i k h => by (try dsimp only at h); exact (by omega)) (fun i h => by (try dsimp only at h); rcases h with h | h | h | h; exact Or.inl (by omega); exact Or.inr (Or.inl (by omega)); exact Or.inr (Or.inr (Or.inl (by omega))); exact Or.inr (Or.inr (Or.inr ((by omega)))))), Or.inl rfl⟩
                    · skip
                      have c354 := wt_ncl h349
                      refine wt_T_some ?_
                      exact ⟨wt_fr.rf, Or.inl rfl⟩
                  · skip
                    have c355 := wt_nceq h345
                    refine wt_T_some ?_
                    exact ⟨wt_fr.rf, (by (try dsimp only); omega)⟩
            · skip
              have c356 := wt_nceq h300
              refine wt_T_some ?_
              exact ⟨wt_fr.rf, (by (try dsimp only); omega)⟩
          · skip
            have c357 := wt_ncl h294
            unfold wp_ap_want_B33
            unfold wp_ap_want_B38
            have k358 : (1 : Int32).toInt = 1 := by decide
            refine wt_T_bi (wq_ap_refuse n hn (1 : Int32) σ) (fun q359 h360 => ?_)
            have e361 := h360
            rw [e361]
            have b362 := wt_bd q359.1
            refine wt_T_if (fun h363 => ?_) (fun h363 => ?_)
            · skip
              have c364 := wt_ceq h363
              have b365 := wt_bd x4
              refine wt_T_if (fun h366 => ?_) (fun h366 => ?_)
              · skip
                have c367 := wt_clt h366
                unfold wp_ap_want_B55
                unfold wp_ap_want_B60
                refine wt_T_bi (wq_ap_refuse n hn (1 : Int32) σ) (fun q368 h369 => ?_)
                have e370 := h369
                rw [e370]
                have b371 := wt_bd q368.1
                refine wt_T_if (fun h372 => ?_) (fun h372 => ?_)
                · skip
                  have c373 := wt_ceq h372
                  have b374 := wt_bd (wt_gf σ 39 8)
                  have k375 : (10 : Int32).toInt = 10 := by decide
                  refine wt_T_if (fun h376 => ?_) (fun h376 => ?_)
                  · skip
                    have c377 := wt_clt h376
                    refine wt_T_bi (wq_st_addWanted n hn 39 x1 x2 x3 x4 σ) (fun q378 h379 => ?_)
                    have f380 := h379
                    refine wt_T_some ?_
                    exact ⟨(wt_fr.tr wt_fr.rf f380 (fun i k h => by (try dsimp only at h); exact (by omega)) (fun i h => by (try dsimp only at h); rcases h with h | h | h | h; exact Or.inl (by omega); exact Or.inr (Or.inl (by omega)); exact Or.inr (Or.inr (Or.inl (by omega))); exact Or.inr (Or.inr (Or.inr ((by omega)))))), Or.inl rfl⟩
                  · skip
                    have c381 := wt_ncl h376
                    refine wt_T_some ?_
                    exact ⟨wt_fr.rf, Or.inl rfl⟩
                · skip
                  have c382 := wt_nceq h372
                  refine wt_T_some ?_
                  exact ⟨wt_fr.rf, (by (try dsimp only); omega)⟩
              · skip
                have c383 := wt_ncl h366
                have k384 : (999 : Int32).toInt = 999 := by decide
                refine wt_T_if (fun h385 => ?_) (fun h385 => ?_)
                · skip
                  have c386 := wt_cle h385
                  unfold wp_ap_want_B60
                  refine wt_T_bi (wq_ap_refuse n hn (0 : Int32) σ) (fun q387 h388 => ?_)
                  have e389 := h388
                  rw [e389]
                  have b390 := wt_bd q387.1
                  refine wt_T_if (fun h391 => ?_) (fun h391 => ?_)
                  · skip
                    have c392 := wt_ceq h391
                    have b393 := wt_bd (wt_gf σ 39 8)
                    have k394 : (10 : Int32).toInt = 10 := by decide
                    refine wt_T_if (fun h395 => ?_) (fun h395 => ?_)
                    · skip
                      have c396 := wt_clt h395
                      refine wt_T_bi (wq_st_addWanted n hn 39 x1 x2 x3 x4 σ) (fun q397 h398 => ?_)
                      have f399 := h398
                      refine wt_T_some ?_
                      exact ⟨(wt_fr.tr wt_fr.rf f399 (fun i k h => by (try dsimp only at h); exact (by omega)) (fun i h => by (try dsimp only at h); rcases h with h | h | h | h; exact Or.inl (by omega); exact Or.inr (Or.inl (by omega)); exact Or.inr (Or.inr (Or.inl (by omega))); exact Or.inr (Or.inr (Or.inr ((by omega)))))), Or.inl rfl⟩
                    · skip
                      have c400 := wt_ncl h395
                      refine wt_T_some ?_
                      exact ⟨wt_fr.rf, Or.inl rfl⟩
                  · skip
                    have c401 := wt_nceq h391
                    refine wt_T_some ?_
                    exact ⟨wt_fr.rf, (by (try dsimp only); omega)⟩
                · skip
                  have c402 := wt_ncle h385
                  unfold wp_ap_want_B55
                  unfold wp_ap_want_B60
                  refine wt_T_bi (wq_ap_refuse n hn (1 : Int32) σ) (fun q403 h404 => ?_)
                  have e405 := h404
                  rw [e405]
                  have b406 := wt_bd q403.1
                  refine wt_T_if (fun h407 => ?_) (fun h407 => ?_)
                  · skip
                    have c408 := wt_ceq h407
                    have b409 := wt_bd (wt_gf σ 39 8)
                    have k410 : (10 : Int32).toInt = 10 := by decide
                    refine wt_T_if (fun h411 => ?_) (fun h411 => ?_)
                    · skip
                      have c412 := wt_clt h411
                      refine wt_T_bi (wq_st_addWanted n hn 39 x1 x2 x3 x4 σ) (fun q413 h414 => ?_)
                      have f415 := h414
                      refine wt_T_some ?_
                      exact ⟨(wt_fr.tr wt_fr.rf f415 (fun i k h => by (try dsimp only at h); exact (by omega)) (fun i h => by (try dsimp only at h); rcases h with h | h | h | h; exact Or.inl (by omega); exact Or.inr (Or.inl (by omega)); exact Or.inr (Or.inr (Or.inl (by omega))); exact Or.inr (Or.inr (Or.inr ((by omega)))))), Or.inl rfl⟩
                    · skip
                      have c416 := wt_ncl h411
                      refine wt_T_some ?_
                      exact ⟨wt_fr.rf, Or.inl rfl⟩
                  · skip
                    have c417 := wt_nceq h407
                    refine wt_T_some ?_
                    exact ⟨wt_fr.rf, (by (try dsimp only); omega)⟩
            · skip
              have c418 := wt_nceq h363
              refine wt_T_some ?_
              exact ⟨wt_fr.rf, (by (try dsimp only); omega)⟩
      · skip
        have c419 := wt_nceq h226
        refine wt_T_some ?_
        exact ⟨wt_fr.rf, (by (try dsimp only); omega)⟩
    · skip
      have c420 := wt_nceq h219
      refine wt_T_some ?_
      exact ⟨wt_fr.rf, (by (try dsimp only); omega)⟩
set_option maxRecDepth 100000 in
set_option maxHeartbeats 4000000 in
theorem wq_ap_word (n : Nat) (hn : 4294967297 < n) (x1 : Int32) (x2 : Int32) (σ : wt_St) : wt_T (wp_ap_word n x1 x2 σ) (fun q => wt_fr (fun i k => False) (fun i => i = 107) σ q.2.2 ∧ (q.1 = 0 ∨ q.1 = 1 ∨ q.1 = 2)) := by
  unfold wp_ap_word
  have b1 := wt_bd n
  have b2 := wt_bd x1
  refine wt_T_bi (wq_tg_has n hn 20 x1 σ) (fun q3 h4 => ?_)
  have e5 := h4
  rw [e5]
  have b6 := wt_bd q3.1
  have k7 : (0 : Int32).toInt = 0 := by decide
  refine wt_T_if (fun h8 => ?_) (fun h8 => ?_)
  · skip
    have c9 := wt_ceq h8
    unfold wp_ap_word_B16
    have k10 : (1 : Int32).toInt = 1 := by decide
    refine wt_T_bi (wq_ap_miss n hn (1 : Int32) σ) (fun q11 h12 => ?_)
    have e13 := h12
    rw [e13]
    have b14 := wt_bd q11.1
    refine wt_T_if (fun h15 => ?_) (fun h15 => ?_)
    · skip
      have c16 := wt_ceq h15
      have b17 := wt_bd x2
      refine wt_T_if (fun h18 => ?_) (fun h18 => ?_)
      · skip
        have c19 := wt_ceq h18
        refine wt_T_bi (wq_ap_look n hn 22 x1 σ) (fun q20 h21 => ?_)
        obtain ⟨e22, e22v⟩ := h21
        have e23 := wt_ceq e22v
        have b24 := wt_bd (wt_lk 22 x1 σ)
        have b25 := wt_bd q20.1
        rw [e22]
        refine wt_T_some ?_
        exact ⟨wt_fr.rf, Or.inl rfl⟩
      · skip
        have c26 := wt_nceq h18
        refine wt_T_if (fun h27 => ?_) (fun h27 => ?_)
        · skip
          have c28 := wt_ceq h27
          refine wt_T_bi (wq_ap_look n hn 23 x1 σ) (fun q29 h30 => ?_)
          obtain ⟨e31, e31v⟩ := h30
          have e32 := wt_ceq e31v
          have b33 := wt_bd (wt_lk 23 x1 σ)
          have b34 := wt_bd q29.1
          rw [e31]
          refine wt_T_some ?_
          exact ⟨wt_fr.rf, Or.inl rfl⟩
        · skip
          have c35 := wt_nceq h27
          have k36 : (2 : Int32).toInt = 2 := by decide
          refine wt_T_if (fun h37 => ?_) (fun h37 => ?_)
          · skip
            have c38 := wt_ceq h37
            refine wt_T_bi (wq_ap_look n hn 24 x1 σ) (fun q39 h40 => ?_)
            obtain ⟨e41, e41v⟩ := h40
            have e42 := wt_ceq e41v
            have b43 := wt_bd (wt_lk 24 x1 σ)
            have b44 := wt_bd q39.1
            rw [e41]
            refine wt_T_some ?_
            exact ⟨wt_fr.rf, Or.inl rfl⟩
          · skip
            have c45 := wt_nceq h37
            have k46 : (3 : Int32).toInt = 3 := by decide
            refine wt_T_if (fun h47 => ?_) (fun h47 => ?_)
            · skip
              have c48 := wt_ceq h47
              refine wt_T_bi (wq_rw_priceOf n hn x1 σ) (fun q49 h50 => ?_)
              have e51 := h50
              rw [e51]
              refine wt_T_some ?_
              exact ⟨wt_fr.rf, Or.inl rfl⟩
            · skip
              have c52 := wt_nceq h47
              have k53 : (4 : Int32).toInt = 4 := by decide
              refine wt_T_if (fun h54 => ?_) (fun h54 => ?_)
              · skip
                have c55 := wt_ceq h54
                refine wt_T_bi (wq_tg_spell n hn 20 107 x1 σ) (fun q56 h57 => ?_)
                have f58 := h57
                refine wt_T_bi (wq_sk_often n hn 107 40 q56) (fun q59 h60 => ?_)
                have e61 := h60
                rw [e61]
                refine wt_T_some ?_
                exact ⟨(wt_fr.tr wt_fr.rf f58 (fun i k h => h.elim) (fun i h => by (try dsimp only at h); exact (by omega))), Or.inl rfl⟩
              · skip
                have c62 := wt_nceq h54
                refine wt_T_some ?_
                exact ⟨wt_fr.rf, Or.inr (Or.inl rfl)⟩
    · skip
      have c63 := wt_nceq h15
      refine wt_T_some ?_
      exact ⟨wt_fr.rf, (by (try dsimp only); omega)⟩
  · skip
    have c64 := wt_nceq h8
    unfold wp_ap_word_B16
    refine wt_T_bi (wq_ap_miss n hn (0 : Int32) σ) (fun q65 h66 => ?_)
    have e67 := h66
    rw [e67]
    have b68 := wt_bd q65.1
    refine wt_T_if (fun h69 => ?_) (fun h69 => ?_)
    · skip
      have c70 := wt_ceq h69
      have b71 := wt_bd x2
      refine wt_T_if (fun h72 => ?_) (fun h72 => ?_)
      · skip
        have c73 := wt_ceq h72
        refine wt_T_bi (wq_ap_look n hn 22 x1 σ) (fun q74 h75 => ?_)
        obtain ⟨e76, e76v⟩ := h75
        have e77 := wt_ceq e76v
        have b78 := wt_bd (wt_lk 22 x1 σ)
        have b79 := wt_bd q74.1
        rw [e76]
        refine wt_T_some ?_
        exact ⟨wt_fr.rf, Or.inl rfl⟩
      · skip
        have c80 := wt_nceq h72
        have k81 : (1 : Int32).toInt = 1 := by decide
        refine wt_T_if (fun h82 => ?_) (fun h82 => ?_)
        · skip
          have c83 := wt_ceq h82
          refine wt_T_bi (wq_ap_look n hn 23 x1 σ) (fun q84 h85 => ?_)
          obtain ⟨e86, e86v⟩ := h85
          have e87 := wt_ceq e86v
          have b88 := wt_bd (wt_lk 23 x1 σ)
          have b89 := wt_bd q84.1
          rw [e86]
          refine wt_T_some ?_
          exact ⟨wt_fr.rf, Or.inl rfl⟩
        · skip
          have c90 := wt_nceq h82
          have k91 : (2 : Int32).toInt = 2 := by decide
          refine wt_T_if (fun h92 => ?_) (fun h92 => ?_)
          · skip
            have c93 := wt_ceq h92
            refine wt_T_bi (wq_ap_look n hn 24 x1 σ) (fun q94 h95 => ?_)
            obtain ⟨e96, e96v⟩ := h95
            have e97 := wt_ceq e96v
            have b98 := wt_bd (wt_lk 24 x1 σ)
            have b99 := wt_bd q94.1
            rw [e96]
            refine wt_T_some ?_
            exact ⟨wt_fr.rf, Or.inl rfl⟩
          · skip
            have c100 := wt_nceq h92
            have k101 : (3 : Int32).toInt = 3 := by decide
            refine wt_T_if (fun h102 => ?_) (fun h102 => ?_)
            · skip
              have c103 := wt_ceq h102
              refine wt_T_bi (wq_rw_priceOf n hn x1 σ) (fun q104 h105 => ?_)
              have e106 := h105
              rw [e106]
              refine wt_T_some ?_
              exact ⟨wt_fr.rf, Or.inl rfl⟩
            · skip
              have c107 := wt_nceq h102
              have k108 : (4 : Int32).toInt = 4 := by decide
              refine wt_T_if (fun h109 => ?_) (fun h109 => ?_)
              · skip
                have c110 := wt_ceq h109
                refine wt_T_bi (wq_tg_spell n hn 20 107 x1 σ) (fun q111 h112 => ?_)
                have f113 := h112
                refine wt_T_bi (wq_sk_often n hn 107 40 q111) (fun q114 h115 => ?_)
                have e116 := h115
                rw [e116]
                refine wt_T_some ?_
                exact ⟨(wt_fr.tr wt_fr.rf f113 (fun i k h => h.elim) (fun i h => by (try dsimp only at h); exact (by omega))), Or.inl rfl⟩
              · skip
                have c117 := wt_nceq h109
                refine wt_T_some ?_
                exact ⟨wt_fr.rf, Or.inr (Or.inl rfl)⟩
    · skip
      have c118 := wt_nceq h69
      refine wt_T_some ?_
      exact ⟨wt_fr.rf, (by (try dsimp only); omega)⟩
set_option maxRecDepth 100000 in
set_option maxHeartbeats 4000000 in
theorem wq_ap_wordings (n : Nat) (hn : 4294967297 < n) (x1 : Int32) (σ : wt_St) : wt_T (wp_ap_wordings n x1 σ) (fun q => wt_fr (fun i k => False) (fun i => i = 82) σ q.2.2 ∧ (q.1 = 0 ∨ q.1 = 2)) := by
  unfold wp_ap_wordings
  have b1 := wt_bd n
  have b2 := wt_bd x1
  refine wt_T_bi (wq_tx_has n hn x1 σ) (fun q3 h4 => ?_)
  have e5 := h4
  rw [e5]
  have b6 := wt_bd q3.1
  have k7 : (0 : Int32).toInt = 0 := by decide
  refine wt_T_if (fun h8 => ?_) (fun h8 => ?_)
  · skip
    have c9 := wt_ceq h8
    unfold wp_ap_wordings_B16
    have k10 : (1 : Int32).toInt = 1 := by decide
    refine wt_T_bi (wq_ap_miss n hn (1 : Int32) σ) (fun q11 h12 => ?_)
    have e13 := h12
    rw [e13]
    have b14 := wt_bd q11.1
    refine wt_T_if (fun h15 => ?_) (fun h15 => ?_)
    · skip
      have c16 := wt_ceq h15
      refine wt_T_bi (wq_rw_howMany n hn x1 σ) (fun q17 h18 => ?_)
      have f19 := h18
      refine wt_T_some ?_
      exact ⟨(wt_fr.tr wt_fr.rf f19 (fun i k h => h.elim) (fun i h => by (try dsimp only at h); exact (by omega))), Or.inl rfl⟩
    · skip
      have c20 := wt_nceq h15
      refine wt_T_some ?_
      exact ⟨wt_fr.rf, (by (try dsimp only); omega)⟩
  · skip
    have c21 := wt_nceq h8
    unfold wp_ap_wordings_B16
    refine wt_T_bi (wq_ap_miss n hn (0 : Int32) σ) (fun q22 h23 => ?_)
    have e24 := h23
    rw [e24]
    have b25 := wt_bd q22.1
    refine wt_T_if (fun h26 => ?_) (fun h26 => ?_)
    · skip
      have c27 := wt_ceq h26
      refine wt_T_bi (wq_rw_howMany n hn x1 σ) (fun q28 h29 => ?_)
      have f30 := h29
      refine wt_T_some ?_
      exact ⟨(wt_fr.tr wt_fr.rf f30 (fun i k h => h.elim) (fun i h => by (try dsimp only at h); exact (by omega))), Or.inl rfl⟩
    · skip
      have c31 := wt_nceq h26
      refine wt_T_some ?_
      exact ⟨wt_fr.rf, (by (try dsimp only); omega)⟩
