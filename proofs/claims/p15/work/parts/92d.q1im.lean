set_option maxHeartbeats 4000000 in
theorem wa1_image (n : Nat) (hn : 4294967297 < n) {σ : wt_St} (v : wt_IV σ) (j : wu_Q1 σ) : wt_H (wp_ap_image n σ) (fun q => wt_H (wp_md_image n q.2) (fun r => q.1 = r.1 ∧ wu_Q1 r.2)) := by
  have k0 : (0 : Int32).toInt = 0 := by decide
  have k3 : (3 : Int32).toInt = 3 := by decide
  intro q hq r hr
  obtain ⟨q', hq', fq⟩ := wq_ap_image n hn σ
  rw [hq] at hq'
  cases hq'
  have v2 : wt_IV q.2 := wt_IV_cls v fq (fun k => by (try dsimp only); omega) (fun i hi => by (try dsimp only); omega)
  have fr := wf_md_image n hn v2 r hr
  obtain ⟨a, b, c, d⟩ := j
  obtain ⟨to2, tx2⟩ := wu_TT_fr v.1 v2.1 a b fq fr (fun i k h => by (try dsimp only); omega) (fun i h => by unfold wu_qA at h; (try dsimp only); omega) (fun k => by (try dsimp only); omega) (fun i h => by (try dsimp only); omega) (fun i k h => by unfold wt_iF; omega) (fun i h => by unfold wt_iA; omega) (fun k h => by unfold wt_iF; omega) (fun i h => by unfold wu_qB at h; unfold wt_iA; omega)
  have g41 : 0 ≤ (wt_gf σ 108 41).toInt ∧ (wt_gf σ 108 41).toInt ≤ 3 := wt_R_gf v.1 9 rfl
  have d' := wt_ceq d
  have m41 : wt_gf q.2 108 41 = wt_gf σ 108 41 := fq.1 108 41 (by (try dsimp only); omega)
  have p14 : wt_gf r.2 0 14 = wt_gf q.2 0 14 := fr.1 0 14 (by unfold wt_iF; omega)
  have pl : wt_gf r.2 1 7 = wt_gf r.2 108 3 := by
    rw [fr.1 1 7 (by unfold wt_iF; omega), fq.1 1 7 (by (try dsimp only); omega), fr.1 108 3 (by unfold wt_iF; omega), fq.1 108 3 (by (try dsimp only); omega)]; exact c
  have C : wt_H (wp_ap_image n σ) (fun q => ((wt_gf σ 108 41).toInt = 3 ∧ q.1 = -1 ∧ wt_gf q.2 0 14 = wt_gf σ 0 14) ∨ ((wt_gf σ 108 41).toInt < 3 ∧ q.1 = (wt_gf σ 0 14) + (1 : Int32) ∧ wt_gf q.2 0 14 = (wt_gf σ 0 14) + (1 : Int32))) := by
    unfold wp_ap_image
    refine wt_H_if (fun h => ?_) (fun h => wt_H_if (fun h2 => ?_) (fun h2 => ?_))
    · have h' := wt_clt h
      omega
    · have h2' := wt_clt h2
      refine wt_H_gd (fun g => ?_)
      have gi := wt_ixn g
      refine wt_H_bh (wq_st_become n hn (49 + 9 * Int32.toNatClampNeg (wt_gf σ 0 14)) 39 σ).h (fun q4 h4 => ?_)
      have e14 : wt_gf q4 0 14 = wt_gf σ 0 14 := h4.1 0 14 (by (try dsimp only); omega)
      refine wt_H_some (Or.inr ⟨by omega, ?_, ?_⟩)
      · show wt_gf (wt_sf q4 0 14 ((wt_gf q4 0 14) + (1 : Int32))) 0 14 = _
        rw [wt_v_sf rfl, e14]
      · show wt_gf (wt_sf q4 0 14 ((wt_gf q4 0 14) + (1 : Int32))) 0 14 = _
        rw [wt_v_sf rfl, e14]
    · have h2' := wt_ncl h2
      exact wt_H_some (Or.inl ⟨by omega, rfl, rfl⟩)
  have M : wt_H (wp_md_image n q.2) (fun r => ((wt_gf σ 108 41).toInt = 3 ∧ r.1 = -1 ∧ wt_gf r.2 108 41 = wt_gf σ 108 41) ∨ ((wt_gf σ 108 41).toInt < 3 ∧ r.1 = (wt_gf σ 108 41) + (1 : Int32) ∧ wt_gf r.2 108 41 = (wt_gf σ 108 41) + (1 : Int32))) := by
    unfold wp_md_image
    obtain ⟨s0, ε0⟩ : ∃ o : wt_St, o = wt_sf q.2 108 0 (0 : Int32) := ⟨_, rfl⟩
    rw [← ε0]
    have f0 := wt_fr_sf ε0
    have e41 : wt_gf s0 108 41 = wt_gf σ 108 41 := (f0.1 108 41 (by (try dsimp only); omega)).trans m41
    rw [e41]
    refine wt_H_if (fun h => ?_) (fun h => ?_)
    · have h' := wt_ceq h
      exact wt_H_some (Or.inl ⟨by omega, rfl, e41⟩)
    · have h' := wt_nceq h
      refine wt_H_gd (fun g => ?_)
      have gi := wt_ixn g
      have en := wt_tnI gi.1
      refine wt_H_bh (wq_md_movesAll n hn (283 + Int32.toNatClampNeg (wt_gf σ 108 41)) (0 : Int32) s0 (wt_RI_fno v2.1 ε0 (Or.inr (by decide))) (by omega) (by omega) (fun h => absurd k0 h)).h (fun q3 h3 => ?_)
      have e3 : wt_gf q3 108 41 = wt_gf σ 108 41 := (h3.2.1.1 108 41 (by unfold wt_mF; omega)).trans e41
      refine wt_H_some (Or.inr ⟨by omega, ?_, ?_⟩)
      · show wt_gf (wt_sf q3 108 41 ((wt_gf q3 108 41) + (1 : Int32))) 108 41 = _
        rw [wt_v_sf rfl, e3]
      · show wt_gf (wt_sf q3 108 41 ((wt_gf q3 108 41) + (1 : Int32))) 108 41 = _
        rw [wt_v_sf rfl, e3]
  rcases C q hq with ⟨c1, c2, c3⟩ | ⟨c1, c2, c3⟩
  · rcases M r hr with ⟨m1, m2, m3⟩ | ⟨m1, -⟩
    · exact ⟨c2.trans m2.symm, to2, tx2, pl, by rw [p14, c3, m3]; exact d⟩
    · omega
  · rcases M r hr with ⟨m1, -⟩ | ⟨m1, m2, m3⟩
    · omega
    · exact ⟨by rw [c2, m2, d], to2, tx2, pl, by rw [p14, c3, m3, d]⟩
set_option maxHeartbeats 4000000 in
theorem wa1_restore (n : Nat) (hn : 4294967297 < n) {σ : wt_St} (v : wt_IV σ) (j : wu_Q1 σ) : wt_H (wp_ap_restore n σ) (fun q => wt_H (wp_md_restore n q.2) (fun r => q.1 = r.1 ∧ wu_Q1 r.2)) := by
  have k0 : (0 : Int32).toInt = 0 := by decide
  have k1 : (1 : Int32).toInt = 1 := by decide
  have k3 : (3 : Int32).toInt = 3 := by decide
  intro q hq r hr
  obtain ⟨q', hq', fq⟩ := wq_ap_restore n hn σ
  rw [hq] at hq'
  cases hq'
  have v2 : wt_IV q.2 := wt_IV_cls v fq (fun k => by (try dsimp only); omega) (fun i hi => by (try dsimp only); omega)
  have fr := wf_md_restore n hn v2 r hr
  obtain ⟨a, b, c, d⟩ := j
  obtain ⟨to2, tx2⟩ := wu_TT_fr v.1 v2.1 a b fq fr (fun i k h => by (try dsimp only); omega) (fun i h => by unfold wu_qA at h; (try dsimp only); omega) (fun k => by (try dsimp only); omega) (fun i h => by (try dsimp only); omega) (fun i k h => by unfold wt_iF; omega) (fun i h => by unfold wt_iA; omega) (fun k h => by unfold wt_iF; omega) (fun i h => by unfold wu_qB at h; unfold wt_iA; omega)
  have g41 : 0 ≤ (wt_gf σ 108 41).toInt ∧ (wt_gf σ 108 41).toInt ≤ 3 := wt_R_gf v.1 9 rfl
  have d' := wt_ceq d
  have m41 : wt_gf q.2 108 41 = wt_gf σ 108 41 := fq.1 108 41 (by (try dsimp only); omega)
  have p14 : wt_gf r.2 0 14 = wt_gf q.2 0 14 := fr.1 0 14 (by unfold wt_iF; omega)
  have pl : wt_gf r.2 1 7 = wt_gf r.2 108 3 := by
    rw [fr.1 1 7 (by unfold wt_iF; omega), fq.1 1 7 (by (try dsimp only); omega), fr.1 108 3 (by unfold wt_iF; omega), fq.1 108 3 (by (try dsimp only); omega)]; exact c
  have es := wt_subE (x := wt_gf σ 0 14) (y := (1 : Int32)) (by omega) (by omega)
  have es2 := wt_subE (x := wt_gf σ 108 41) (y := (1 : Int32)) (by omega) (by omega)
  have C : wt_H (wp_ap_restore n σ) (fun q => ((wt_gf σ 108 41).toInt = 0 ∧ q.1 = -1 ∧ wt_gf q.2 0 14 = wt_gf σ 0 14) ∨ (0 < (wt_gf σ 108 41).toInt ∧ q.1 = (wt_gf σ 0 14) - (1 : Int32) ∧ wt_gf q.2 0 14 = (wt_gf σ 0 14) - (1 : Int32))) := by
    unfold wp_ap_restore
    refine wt_H_if (fun h => ?_) (fun h => wt_H_if (fun h2 => ?_) (fun h2 => ?_))
    · have h' := wt_clt h
      exact wt_H_some (Or.inl ⟨by omega, rfl, rfl⟩)
    · have h' := wt_ncl h
      refine wt_H_gd (fun g => ?_)
      refine wt_H_bh (wq_st_become n hn 39 (49 + 9 * Int32.toNatClampNeg ((wt_gf σ 0 14) - (1 : Int32))) σ).h (fun q4 h4 => ?_)
      refine wt_H_some (Or.inr ⟨by omega, ?_, ?_⟩)
      · show wt_gf (wt_sf q4 0 14 ((wt_gf σ 0 14) - (1 : Int32))) 0 14 = _
        exact wt_v_sf rfl
      · show wt_gf (wt_sf q4 0 14 ((wt_gf σ 0 14) - (1 : Int32))) 0 14 = _
        exact wt_v_sf rfl
    · have h' := wt_ncl h
      have h2' := wt_ncl h2
      omega
  have M : wt_H (wp_md_restore n q.2) (fun r => ((wt_gf σ 108 41).toInt = 0 ∧ r.1 = -1 ∧ wt_gf r.2 108 41 = wt_gf σ 108 41) ∨ (0 < (wt_gf σ 108 41).toInt ∧ r.1 = (wt_gf σ 108 41) - (1 : Int32) ∧ wt_gf r.2 108 41 = (wt_gf σ 108 41) - (1 : Int32))) := by
    unfold wp_md_restore
    obtain ⟨s0, ε0⟩ : ∃ o : wt_St, o = wt_sf q.2 108 0 (0 : Int32) := ⟨_, rfl⟩
    rw [← ε0]
    have f0 := wt_fr_sf ε0
    have e41 : wt_gf s0 108 41 = wt_gf σ 108 41 := (f0.1 108 41 (by (try dsimp only); omega)).trans m41
    rw [e41]
    refine wt_H_if (fun h => ?_) (fun h => ?_)
    · have h' := wt_ceq h
      exact wt_H_some (Or.inl ⟨by omega, rfl, e41⟩)
    · have h' := wt_nceq h
      obtain ⟨s1, ε1⟩ : ∃ o : wt_St, o = wt_sf s0 108 41 ((wt_gf σ 108 41) - (1 : Int32)) := ⟨_, rfl⟩
      rw [← ε1]
      have v41 := wt_v_sf ε1
      rw [v41]
      have f1 := wt_fr_sf ε1
      refine wt_H_gd (fun g => ?_)
      have gi := wt_ixn g
      have en := wt_tnI gi.1
      have kk := (v2.2.2.2.2 (Int32.toNatClampNeg ((wt_gf σ 108 41) - (1 : Int32))) (by rw [m41]; omega)).1
      refine wt_H_bh (wq_md_movesAll n hn (283 + Int32.toNatClampNeg ((wt_gf σ 108 41) - (1 : Int32))) (1 : Int32) s1 (wt_RI_fin (wt_RI_fno v2.1 ε0 (Or.inr (by decide))) ε1 9 rfl rfl (show 0 ≤ ((wt_gf σ 108 41) - (1 : Int32)).toInt by omega) (show ((wt_gf σ 108 41) - (1 : Int32)).toInt ≤ 3 by omega)) (by omega) (by omega) (fun _ j hj => ?_)).h (fun q3 h3 => ?_)
      · rw [f1.2 _ (fun h => h), f0.2 _ (fun h => h)]
        exact kk j hj
      · have e3 : wt_gf q3 108 41 = (wt_gf σ 108 41) - (1 : Int32) := (h3.2.1.1 108 41 (by unfold wt_mF; omega)).trans v41
        exact wt_H_some (Or.inr ⟨by omega, e3, e3⟩)
  rcases C q hq with ⟨c1, c2, c3⟩ | ⟨c1, c2, c3⟩
  · rcases M r hr with ⟨m1, m2, m3⟩ | ⟨m1, -⟩
    · exact ⟨c2.trans m2.symm, to2, tx2, pl, by rw [p14, c3, m3]; exact d⟩
    · omega
  · rcases M r hr with ⟨m1, -⟩ | ⟨m1, m2, m3⟩
    · omega
    · exact ⟨by rw [c2, m2, d], to2, tx2, pl, by rw [p14, c3, m3, d]⟩
