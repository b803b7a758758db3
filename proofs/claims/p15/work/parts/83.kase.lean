/-! a case is read -/
def wt_kS (σ s : wt_St) : Prop := wt_RI s ∧ wt_M12 s ∧ wt_gf s 108 41 = wt_gf σ 108 41 ∧ ∀ j, wt_ga s 275 j = wt_ga σ 275 j
theorem wt_kS_fr {σ s s' : wt_St} {F : Nat → Nat → Prop} {A : Nat → Prop} (h : wt_kS σ s) (r : wt_RI s') (f : wt_fr F A s s') (m : ¬ A 111) (h1 : ¬ F 108 41) (h2 : ¬ A 275) : wt_kS σ s' := ⟨r, wt_M_fr h.2.1 f m, (f.1 108 41 h1).trans h.2.2.1, fun j => (f.2 275 h2 j).trans (h.2.2.2 j)⟩
def wt_kE (σ s : wt_St) : Prop := (wt_gf s 108 41).toInt ≤ (wt_gf σ 108 41).toInt ∧ ∀ j, wt_ga s 275 j = wt_ga σ 275 j ∨ (wt_ga s 275 j).toInt = -1
theorem wt_kS_E {σ s : wt_St} (h : wt_kS σ s) : wt_kE σ s := ⟨by rw [h.2.2.1]; exact Int.le_refl _, fun j => Or.inl (h.2.2.2 j)⟩
set_option maxRecDepth 100000 in
set_option maxHeartbeats 4000000 in
theorem wq_md_kaseH (n : Nat) (hn : 4294967297 < n) (x1 : Int32) (σ : wt_St) (r0 : wt_RI σ) (m0 : wt_M12 σ) : wt_H (wp_md_kase n x1 σ) (fun q => wt_kE σ q.2) := by
  have k0 : (0 : Int32).toInt = 0 := by decide
  have k1 : (1 : Int32).toInt = 1 := by decide
  have g41 : 0 ≤ (wt_gf σ 108 41).toInt ∧ (wt_gf σ 108 41).toInt ≤ 3 := wt_R_gf r0 9 rfl
  have B70 : ∀ z, wt_kS σ z → wt_H (wp_md_kase_B70 n z) (fun q => wt_kE σ q.2) := by
    intro z Sz
    unfold wp_md_kase_B70
    obtain ⟨s1, ε1⟩ : ∃ o : wt_St, o = wt_sf z 108 3 (wt_gf z 108 6) := ⟨_, rfl⟩
    rw [← ε1]
    have f1 := wt_fr_sf ε1
    have S1 : wt_kS σ s1 := wt_kS_fr Sz (wt_RI_fno Sz.1 ε1 (Or.inr (by decide))) f1 (fun h => h) (by (try dsimp only); omega) (fun h => h)
    refine wt_H_if (fun h => ?_) (fun h => wt_H_some (wt_kS_E S1))
    refine wt_H_bi (wq_md_takesCase n hn s1 S1.1 S1.2.1) (fun t ht => ?_)
    obtain ⟨ft, rt, mt⟩ := ht
    have e275 : ∀ j, wt_ga t 275 j = wt_ga σ 275 j := fun j => (ft.2 275 (by (try dsimp only); omega) j).trans (S1.2.2.2 j)
    refine wt_H_it (fun s : Int32 × wt_St => wt_RI s.2 ∧ ∀ j, wt_ga s.2 275 j = wt_ga σ 275 j ∨ (wt_ga s.2 275 j).toInt = -1) (fun K s I hK => ?_) n _ ⟨rt, fun j => Or.inl (e275 j)⟩
    obtain ⟨rs, hs⟩ := I
    unfold wp_md_kase_B99
    refine wt_H_if (fun h4 => ?_) (fun h4 => ?_)
    · obtain ⟨s2, ε2⟩ : ∃ o : wt_St, o = wt_sf s.2 108 41 (0 : Int32) := ⟨_, rfl⟩
      rw [← ε2]
      have f2 := wt_fr_sf ε2
      refine wt_H_bi (wq_md_allPieces n hn s2 (wt_RI_fin rs ε2 9 rfl rfl (show 0 ≤ ((0 : Int32)).toInt by omega) (show ((0 : Int32)).toInt ≤ 3 by omega))) (fun a ha => ?_)
      refine wt_H_some ?_
      show wt_kE σ a.2
      rw [ha]
      refine ⟨?_, fun j => ?_⟩
      · rw [wt_v_sf ε2, k0]; exact g41.1
      · rw [f2.2 275 (fun h => h)]; exact hs j
    · refine wt_H_gd (fun g => ?_)
      obtain ⟨s2, ε2⟩ : ∃ o : wt_St, o = wt_sa s.2 275 (Int32.toNatClampNeg s.1) (-1 : Int32) := ⟨_, rfl⟩
      rw [← ε2]
      refine hK _ ⟨wt_RI_in rs ε2 12 rfl (by decide) (by decide) (show -1 ≤ ((-1 : Int32)).toInt by rw [wt_lm1]; exact Int.le_refl _) (show ((-1 : Int32)).toInt ≤ 7 by rw [wt_lm1]; decide), fun j => ?_⟩
      show wt_ga s2 275 j = wt_ga σ 275 j ∨ (wt_ga s2 275 j).toInt = -1
      by_cases hj : j = Int32.toNatClampNeg s.1
      · right; rw [hj]; exact (wt_ceq (wt_v_sa ε2)).trans wt_lm1
      · rw [wt_w_sa ε2 j hj]; exact hs j
  unfold wp_md_kase
  obtain ⟨s0, ε0⟩ : ∃ o : wt_St, o = wt_sf σ 108 0 (0 : Int32) := ⟨_, rfl⟩
  rw [← ε0]
  have f0 := wt_fr_sf ε0
  have S0 : wt_kS σ s0 := ⟨wt_RI_fno r0 ε0 (Or.inr (by decide)), wt_M_sf m0 ε0, f0.1 108 41 (by (try dsimp only); omega), f0.2 275 (fun h => h)⟩
  have B : ∀ y1 : Int32, y1.toInt ≠ 0 ∨ (0 ≤ x1.toInt ∧ x1.toInt ≤ 500) → wt_H (wp_md_kase_B23 n x1 y1 s0) (fun q => wt_kE σ q.2) := by
    intro y1 hy
    unfold wp_md_kase_B23
    refine wt_H_bi (wq_md_bad n hn y1 (1 : Int32) s0 S0.1 (by omega)) (fun b hb => ?_)
    obtain ⟨fb, rb, vb⟩ := hb
    have SB : wt_kS σ b.2 := wt_kS_fr S0 rb fb (fun h => h) (by (try dsimp only); omega) (fun h => h)
    refine wt_H_if (fun h => ?_) (fun h => wt_H_some (wt_kS_E SB))
    have c := wt_ceq h
    refine wt_H_bi (wq_md_starts n hn x1 b.2 rb (by omega) (by omega)) (fun q5 h5 => ?_)
    obtain ⟨f5, r5, -⟩ := h5
    have S5 : wt_kS σ q5 := wt_kS_fr SB r5 f5 (fun h => h) (by (try dsimp only); omega) (fun h => h)
    refine wt_H_bi (wq_md_clearsCase n hn q5 r5) (fun q6 h6 => ?_)
    obtain ⟨f6, r6⟩ := h6
    have S6 : wt_kS σ q6 := wt_kS_fr S5 r6 f6 (by (try dsimp only); omega) (by (try dsimp only); omega) (by (try dsimp only); omega)
    refine wt_H_it (fun s : wt_St => wt_kS σ s) (fun K z Sz hK => ?_) n q6 S6
    unfold wp_md_kase_B41
    refine wt_H_if (fun h1 => ?_) (fun h1 => B70 z Sz)
    refine wt_H_if (fun h2 => B70 z Sz) (fun h2 => ?_)
    refine wt_H_bi (wq_md_clause n hn z Sz.1) (fun q7 h7 => ?_)
    obtain ⟨f7, r7, -⟩ := h7
    have S7 : wt_kS σ q7 := wt_kS_fr Sz r7 f7 (by (try dsimp only); omega) (by (try dsimp only); omega) (by (try dsimp only); omega)
    refine wt_H_bi (wq_md_blanks n hn q7 r7) (fun q8 h8 => ?_)
    obtain ⟨f8, r8, -⟩ := h8
    exact hK _ (wt_kS_fr S7 r8 f8 (fun h => h) (by (try dsimp only); omega) (fun h => h))
  refine wt_H_bi (wq_md_in n hn x1 (0 : Int32) (wt_gf s0 108 1) s0 S0.1) (fun q1 h1 => ?_)
  obtain ⟨e1, p1⟩ := h1
  rw [e1]
  refine wt_H_if (fun h => B _ (Or.inl (by omega))) (fun h => ?_)
  have c := wt_nceq h
  have g1 : 0 ≤ (wt_gf s0 108 1).toInt ∧ (wt_gf s0 108 1).toInt ≤ 500 := wt_R_gf S0.1 0 rfl
  exact B _ (Or.inr (by omega))
