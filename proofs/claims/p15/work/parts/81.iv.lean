theorem wt_IV_cls {σ σ' : wt_St} {F : Nat → Nat → Prop} {A : Nat → Prop} (h : wt_IV σ) (f : wt_fr F A σ σ') (hF : ∀ k, ¬ F 108 k) (hA : ∀ i, 108 ≤ i → ¬ A i) : wt_IV σ' := wt_IV_fr h (wt_RI_fr h.1 f hF hA) f (hF 39) (hF 41) (fun i hi => hA i (by unfold wt_PA at hi; omega))
theorem wt_IV_m {σ σ' : wt_St} {F : Nat → Nat → Prop} {A : Nat → Prop} (v : wt_IV σ) (r' : wt_RI σ') (m' : wt_M12 σ') (f : wt_fr F A σ σ') (h39 : ¬ F 108 39) (h41 : ¬ F 108 41) (hA : ∀ i, wt_PA i ∨ (283 ≤ i ∧ i < 286) → ¬ A i) : wt_IV σ' := by
  obtain ⟨v1, v2, v3, v4, v5⟩ := v
  have g41 : 0 ≤ (wt_gf σ 108 41).toInt ∧ (wt_gf σ 108 41).toInt ≤ 3 := wt_Rf9 v1
  refine ⟨r', m', wt_PG_fr v1 v3 f h39 (fun i hi => hA i (Or.inl hi)), wt_PD_fr v4 f (fun i hi => hA i (Or.inl (by unfold wt_PA; omega))), fun i hi => ?_⟩
  rw [f.1 108 41 h41] at hi
  exact wt_KK_eq v1 (v5 i hi) (f.1 108 39 h39) (fun j hj => f.2 j (hA j (Or.inl (by unfold wt_TA at hj; unfold wt_PA; omega)))) (f.2 _ (hA _ (Or.inr ⟨by omega, by omega⟩)))

theorem wt_IV_5 {σ σ' : wt_St} {F : Nat → Nat → Prop} {A : Nat → Prop} (v : wt_IV σ) (r' : wt_RI σ') (m' : wt_M12 σ') (f : wt_fr F A σ σ') (h39 : ¬ F 108 39) (h41 : (wt_gf σ' 108 41).toInt ≤ (wt_gf σ 108 41).toInt) (h5 : ∀ j, wt_ga σ' 275 j = wt_ga σ 275 j ∨ (wt_ga σ' 275 j).toInt = -1) (hA : ∀ i, wt_TA i ∨ i = 276 ∨ (278 ≤ i ∧ i < 282) ∨ (283 ≤ i ∧ i < 286) → ¬ A i) : wt_IV σ' := by
  obtain ⟨v1, v2, v3, v4, v5⟩ := v
  have g41 : 0 ≤ (wt_gf σ 108 41).toInt ∧ (wt_gf σ 108 41).toInt ≤ 3 := wt_Rf9 v1
  refine ⟨r', m', fun g hg hne => ?_, wt_PD_fr v4 f (fun i hi => hA i (by omega)), fun i hi => ?_⟩
  · rcases h5 g with e | e
    · rw [e] at hne ⊢
      have h := v3 g hg hne
      have gt : -1 ≤ (wt_ga σ 275 g).toInt ∧ (wt_ga σ 275 g).toInt ≤ 7 := wt_Ra12 v1 275 (by decide) (by decide) g
      refine ⟨by rw [f.1 108 39 h39]; exact h.1, fun l h0 h1 => ?_⟩
      rw [wt_nt_ta v1 (wt_tnle (b := 7) gt.2) (fun i hi => f.2 i (hA i (Or.inl hi)))]
      have e2 : wt_pc σ' g l = wt_pc σ g l := by
        unfold wt_pc
        rw [f.2 276 (hA 276 (Or.inr (Or.inl rfl))) g]
        have e3 : (fun k => (wt_ga σ' (278 + g) k).toInt / 13) = (fun k => (wt_ga σ (278 + g) k).toInt / 13) := by
          funext k
          rw [f.2 (278 + g) (hA _ (Or.inr (Or.inr (Or.inl ⟨by omega, by omega⟩)))) k]
        rw [e3]
      rw [e2]
      exact h.2 l h0 h1
    · exact absurd e hne
  · exact wt_KK_eq v1 (v5 i (by omega)) (f.1 108 39 h39) (fun j hj => f.2 j (hA j (Or.inl hj))) (f.2 _ (hA _ (Or.inr (Or.inr (Or.inr ⟨by omega, by omega⟩)))))
set_option maxRecDepth 100000 in
set_option maxHeartbeats 4000000 in
theorem wq_md_takesApartP (n : Nat) (hn : 4294967297 < n) (x1 : Int32) (σ : wt_St) (r0 : wt_RI σ) (p0 : 0 ≤ x1.toInt) (p1 : x1.toInt ≤ 3) : wt_T (wp_md_takesApart n x1 σ) (fun q => wt_fr (fun _ _ => False) (fun i => i = 275 ∨ i = 124) σ q ∧ wt_RI q ∧ (wt_ga q 275 (Int32.toNatClampNeg x1)).toInt = -1 ∧ ∀ j, j ≠ Int32.toNatClampNeg x1 → wt_ga q 275 j = wt_ga σ 275 j) := by
  unfold wp_md_takesApart
  have k0 : (0 : Int32).toInt = 0 := by decide
  have hx := wt_tnI p0
  have gm : 0 ≤ (wt_ga σ 276 (Int32.toNatClampNeg x1)).toInt ∧ (wt_ga σ 276 (Int32.toNatClampNeg x1)).toInt ≤ 108 := wt_Ra13 r0 276 (by decide) (by decide) _
  refine wt_T_it (fun s : Int32 × wt_St => wt_fr (fun _ _ => False) (fun i => i = 124) σ s.2 ∧ wt_RI s.2 ∧ 0 ≤ s.1.toInt) (fun s => ((wt_ga σ 276 (Int32.toNatClampNeg x1)).toInt - s.1.toInt).toNat) (fun K z hI hK => ?_) n _ ?_ ?_
  · obtain ⟨fz, rz, l1⟩ := hI
    have et := wt_tnI l1
    unfold wp_md_takesApart_B2
    rw [fz.2 276 (by decide), fz.2 (278 + Int32.toNatClampNeg x1) (by omega)]
    refine wt_T_gd (wt_ix (by omega) (by omega)) ?_
    refine wt_T_if (fun h => ?_) (fun h => ?_)
    · refine wt_T_gd (wt_ix (by omega) (by omega)) ?_
      obtain ⟨σ1, ε1⟩ : ∃ o : wt_St, o = wt_sa z.2 275 (Int32.toNatClampNeg x1) (-1 : Int32) := ⟨_, rfl⟩
      rw [← ε1]
      refine wt_T_some ⟨wt_fr.tr (wt_fr.tr wt_fr.rf fz (fun i k h => h) (fun i h => Or.inr h)) (wt_fr_sa ε1) (fun i k h => h) (fun i h => Or.inl h), wt_Rn12 rz ε1 (by decide) (by decide) (show -1 ≤ ((-1 : Int32)).toInt by rw [wt_lm1]; exact Int.le_refl _) (show ((-1 : Int32)).toInt ≤ 7 by rw [wt_lm1]; decide), (wt_ceq (wt_v_sa ε1)).trans wt_lm1, fun j hj => ?_⟩
      rw [wt_w_sa ε1 j hj, fz.2 275 (by decide)]
    · have c := wt_ncle h
      have gc : 0 ≤ (wt_ga σ (278 + Int32.toNatClampNeg x1) (Int32.toNatClampNeg z.1)).toInt ∧ (wt_ga σ (278 + Int32.toNatClampNeg x1) (Int32.toNatClampNeg z.1)).toInt ≤ 337 := wt_Ra14 r0 (278 + Int32.toNatClampNeg x1) (show 278 ≤ 278 + Int32.toNatClampNeg x1 by omega) (show 278 + Int32.toNatClampNeg x1 < 282 by omega) _
      have ei := wt_i1 (c := z.1) (by omega)
      refine wt_T_gd (wt_ix (by omega) (by omega)) ?_
      refine wt_T_gd (wt_ix (by omega) (by omega)) ?_
      refine wt_T_gd (wt_ix (by omega) (by omega)) ?_
      obtain ⟨σ1, ε1⟩ : ∃ o : wt_St, o = wt_sa z.2 124 (Int32.toNatClampNeg (wt_ga σ (278 + Int32.toNatClampNeg x1) (Int32.toNatClampNeg z.1))) (-1 : Int32) := ⟨_, rfl⟩
      rw [← ε1]
      exact hK _ ⟨wt_fr.tr fz (wt_fr_sa ε1) (fun i k h => h) (fun i h => h), wt_RI_no rz ε1 124 125 (by decide +kernel) (by decide) (by decide), (show 0 ≤ (z.1 + (1 : Int32)).toInt by omega)⟩ (show ((wt_ga σ 276 (Int32.toNatClampNeg x1)).toInt - (z.1 + (1 : Int32)).toInt).toNat < ((wt_ga σ 276 (Int32.toNatClampNeg x1)).toInt - z.1.toInt).toNat by omega)
  · exact ⟨wt_fr.rf, r0, (show 0 ≤ (0 : Int32).toInt by omega)⟩
  · show ((wt_ga σ 276 (Int32.toNatClampNeg x1)).toInt - (0 : Int32).toInt).toNat < n
    omega
set_option maxRecDepth 100000 in
set_option maxHeartbeats 4000000 in
theorem wq_md_apartP (n : Nat) (hn : 4294967297 < n) (x1 : Int32) (σ : wt_St) (v : wt_IV σ) : wt_T (wp_md_apart n x1 σ) (fun q => wt_IV q.2 ∧ ∀ i k, (i = 108 ∧ k = 1) ∨ (i = 1 ∧ k = 2) → wt_gf q.2 i k = wt_gf σ i k) := by
  unfold wp_md_apart
  have k0 : (0 : Int32).toInt = 0 := by decide
  have k1 : (1 : Int32).toInt = 1 := by decide
  obtain ⟨s0, ε0⟩ : ∃ o : wt_St, o = wt_sf σ 108 0 (0 : Int32) := ⟨_, rfl⟩
  rw [← ε0]
  have f0 := wt_fr_sf ε0
  have v0 : wt_IV s0 := wt_IV_fr v (wt_RI_fno v.1 ε0 (Or.inr (by decide +kernel))) f0 (by omega) (by omega) (fun i _ h => h)
  have B : ∀ y1 : Int32, y1.toInt ≠ 0 ∨ (0 ≤ x1.toInt ∧ x1.toInt ≤ 3) → wt_T (wp_md_apart_B19 n x1 y1 s0) (fun q => wt_IV q.2 ∧ ∀ i k, (i = 108 ∧ k = 1) ∨ (i = 1 ∧ k = 2) → wt_gf q.2 i k = wt_gf σ i k) := by
    intro y1 hy
    unfold wp_md_apart_B19
    refine wt_T_bi (wq_md_bad n hn y1 (1 : Int32) s0 v0.1 (by omega)) (fun b hb => ?_)
    obtain ⟨fb, rb, vb⟩ := hb
    have vB : wt_IV b.2 := wt_IV_fr v0 rb fb (by omega) (by omega) (fun i _ h => h)
    have eB : ∀ i k, (i = 108 ∧ k = 1) ∨ (i = 1 ∧ k = 2) → wt_gf b.2 i k = wt_gf σ i k := fun i k h => (fb.1 i k (by omega)).trans (f0.1 i k (by omega))
    refine wt_T_if (fun h => ?_) (fun h => wt_T_some ⟨vB, eB⟩)
    have c := wt_ceq h
    have hx : 0 ≤ x1.toInt ∧ x1.toInt ≤ 3 := by omega
    refine wt_T_bi (wq_md_takesApartP n hn x1 b.2 rb hx.1 hx.2) (fun q hq => ?_)
    obtain ⟨fq, rq, z1, z2⟩ := hq
    refine wt_T_gd (wt_ix (by omega) (by omega)) ?_
    refine wt_T_some ⟨wt_IV_5 vB rq (wt_M_fr vB.2.1 fq (by omega)) fq (fun h => h) (by rw [fq.1 108 41 (fun h => h)]; exact Int.le_refl _) (fun j => ?_) (fun i hi h => by unfold wt_TA at hi; omega), fun i k h => (fq.1 i k (fun h => h)).trans (eB i k h)⟩
    by_cases hj : j = Int32.toNatClampNeg x1
    · rw [hj]; exact Or.inr z1
    · exact Or.inl (z2 j hj)
  refine wt_T_bi (wq_md_isPage n hn x1 s0 v0.1) (fun q1 h1 => ?_)
  obtain ⟨e1, p1⟩ := h1
  rw [e1]
  refine wt_T_if (fun h => B _ (Or.inl (by omega))) (fun h => ?_)
  have c := wt_nceq h
  exact B _ (Or.inr (by omega))
