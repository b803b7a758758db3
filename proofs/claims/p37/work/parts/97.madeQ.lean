-- 97.made.lean.txt
section WTQ0
theorem wt_z_gf (i k : Nat) : wt_gf wt_z i k = 0 := rfl
theorem wt_z_ga (i j : Nat) : wt_ga wt_z i j = 0 := rfl
set_option maxHeartbeats 4000000 in
theorem wt_made_ex (n : Nat) (hn : 4294967297 < n) : ∃ σ, wt_made n σ ∧ wt_Inv σ ∧ wt_JT σ := by
  have k0 : (0 : Int32).toInt = 0 := by decide
  obtain ⟨α1, a1, f1⟩ := wq_ld_clear n hn 4 (wt_sf wt_z 1 7 (-1 : Int32))
  obtain ⟨α2, a2, f2⟩ := wq_ld_clear n hn 12 α1
  obtain ⟨α3, a3, f3⟩ := wq_st_clearPages n hn 39 α2
  obtain ⟨α4, a4, f4⟩ := wq_st_clearPages n hn 49 α3
  obtain ⟨α5, a5, f5⟩ := wq_st_clearPages n hn 58 α4
  obtain ⟨α6, a6, f6⟩ := wq_st_clearPages n hn 67 α5
  have zf : ∀ i k, (108 ≤ i ∨ (i = 1 ∧ k = 2)) → wt_gf α6 i k = 0 := fun i k h => by
    rw [f6.1 i k (fun h => h), f5.1 i k (fun h => h), f4.1 i k (fun h => h), f3.1 i k (fun h => h), f2.1 i k (by (try dsimp only); omega), f1.1 i k (by (try dsimp only); omega), wt_gf_sf, if_neg (by omega)]
    rfl
  have za : ∀ i j, 108 ≤ i → wt_ga α6 i j = 0 := fun i j h => by
    rw [f6.2 i (by (try dsimp only); omega), f5.2 i (by (try dsimp only); omega), f4.2 i (by (try dsimp only); omega), f3.2 i (by (try dsimp only); omega), f2.2 i (by (try dsimp only); omega), f1.2 i (by (try dsimp only); omega)]
    rfl
  have r6 : wt_RI α6 := by
    refine ⟨fun q hq i q1 q2 j => ?_, fun q hq => ?_, fun i w1 w2 => ?_⟩
    · have hl : wt_fam.all (fun q => decide (108 ≤ q.1) && (decide (q.2.2.1 ≤ 0) && decide (0 ≤ q.2.2.2))) = true := by decide +kernel
      have h := List.all_eq_true.mp hl q hq
      simp only [Bool.and_eq_true, decide_eq_true_eq] at h
      rw [za i j (by omega), k0]
      exact h.2
    · have hl : wt_famF.all (fun q => decide (q.2.1 ≤ 0) && decide (0 ≤ q.2.2)) = true := by decide +kernel
      have h := List.all_eq_true.mp hl q hq
      simp only [Bool.and_eq_true, decide_eq_true_eq] at h
      rw [zf 108 q.1 (Or.inl (Nat.le_refl _)), k0]
      exact h
    · rw [za i 0 (by omega), za i 1 (by omega), k0]
      omega
  obtain ⟨s1, e1⟩ : ∃ o : wt_St, o = wt_sf α6 81 9 (-1 : Int32) := ⟨_, rfl⟩
  obtain ⟨s2, e2⟩ : ∃ o : wt_St, o = wt_sf s1 0 14 (0 : Int32) := ⟨_, rfl⟩
  obtain ⟨s3, e3⟩ : ∃ o : wt_St, o = wt_sf s2 108 3 (-1 : Int32) := ⟨_, rfl⟩
  have r1 := wt_RI_fno r6 e1 (Or.inl (by decide))
  have r2 := wt_RI_fno r1 e2 (Or.inl (by decide))
  have r3 := wt_RI_fno r2 e3 (Or.inr (by decide +kernel))
  have g1 := wt_fr_sf e1
  have g2 := wt_fr_sf e2
  have g3 := wt_fr_sf e3
  have za3 : ∀ i j, 108 ≤ i → wt_ga s3 i j = 0 := fun i j h => by
    rw [g3.2 i (fun h => h), g2.2 i (fun h => h), g1.2 i (fun h => h), za i j h]
  have zf3 : ∀ i k, (i = 108 ∧ k ≠ 3) ∨ (i = 1 ∧ k = 2) → wt_gf s3 i k = 0 := fun i k h => by
    rw [g3.1 i k (by omega), g2.1 i k (by omega), g1.1 i k (by omega), zf i k (by omega)]
  obtain ⟨β1, b1, h1, rb1⟩ := wq_md_clearsCase n hn s3 r3
  have m1 : wt_M12 β1 := fun j => by
    rw [h1.2 111 (by (try dsimp only); omega), za3 111 j (by omega), k0]
    omega
  obtain ⟨β2, b2, h2, rb2, m2⟩ := wq_md_takesCase n hn β1 rb1 m1
  obtain ⟨t0, c0⟩ : ∃ o : wt_St, o = wt_sa β2 275 ((0 : Int32)).toNatClampNeg (-1 : Int32) := ⟨_, rfl⟩
  obtain ⟨t1, c1⟩ : ∃ o : wt_St, o = wt_sa t0 275 ((1 : Int32)).toNatClampNeg (-1 : Int32) := ⟨_, rfl⟩
  obtain ⟨t2, c2⟩ : ∃ o : wt_St, o = wt_sa t1 275 ((2 : Int32)).toNatClampNeg (-1 : Int32) := ⟨_, rfl⟩
  obtain ⟨t3, c3⟩ : ∃ o : wt_St, o = wt_sa t2 275 ((3 : Int32)).toNatClampNeg (-1 : Int32) := ⟨_, rfl⟩
  have q1 : -1 ≤ ((-1 : Int32)).toInt := by decide
  have q2 : ((-1 : Int32)).toInt ≤ 7 := by decide
  have rt0 := wt_Rn12 rb2 c0 (by decide) (by decide) q1 q2
  have rt1 := wt_Rn12 rt0 c1 (by decide) (by decide) q1 q2
  have rt2 := wt_Rn12 rt1 c2 (by decide) (by decide) q1 q2
  have rt3 := wt_Rn12 rt2 c3 (by decide) (by decide) q1 q2
  have d0 := wt_fr_sa c0
  have d1 := wt_fr_sa c1
  have d2 := wt_fr_sa c2
  have d3 := wt_fr_sa c3
  have tf : ∀ i k, wt_gf t3 i k = wt_gf β2 i k := fun i k => by
    rw [d3.1 i k (fun h => h), d2.1 i k (fun h => h), d1.1 i k (fun h => h), d0.1 i k (fun h => h)]
  have ta : ∀ i j, i ≠ 275 → wt_ga t3 i j = wt_ga β2 i j := fun i j h => by
    rw [d3.2 i h, d2.2 i h, d1.2 i h, d0.2 i h]
  have n0 : ((0 : Int32)).toNatClampNeg = 0 := by decide
  have n1 : ((1 : Int32)).toNatClampNeg = 1 := by decide
  have n2 : ((2 : Int32)).toNatClampNeg = 2 := by decide
  have n3 : ((3 : Int32)).toNatClampNeg = 3 := by decide
  have p5 : ∀ g, g < 4 → (wt_ga t3 275 g).toInt = -1 := fun g hg => by
    have : g = 0 ∨ g = 1 ∨ g = 2 ∨ g = 3 := by omega
    have v3 := wt_v_sa c3
    have v2 := wt_v_sa c2
    have v1 := wt_v_sa c1
    have v0 := wt_v_sa c0
    rw [n3] at v3
    rw [n2] at v2
    rw [n1] at v1
    rw [n0] at v0
    rcases this with rfl | rfl | rfl | rfl
    · rw [wt_w_sa c3 0 (by rw [n3]; decide), wt_w_sa c2 0 (by rw [n2]; decide), wt_w_sa c1 0 (by rw [n1]; decide), v0, wt_lm1]
    · rw [wt_w_sa c3 1 (by rw [n3]; decide), wt_w_sa c2 1 (by rw [n2]; decide), v1, wt_lm1]
    · rw [wt_w_sa c3 2 (by rw [n3]; decide), v2, wt_lm1]
    · rw [v3, wt_lm1]
  have z276 : ∀ g, (wt_ga t3 276 g).toInt = 0 := fun g => by
    rw [ta 276 g (by decide), h2.2 276 (by (try dsimp only); omega), h1.2 276 (by (try dsimp only); omega), za3 276 g (by omega), k0]
  have z41 : (wt_gf t3 108 41).toInt = 0 := by
    rw [tf, h2.1 108 41 (by (try dsimp only); omega), h1.1 108 41 (by (try dsimp only); omega), zf3 108 41 (by omega), k0]
  refine ⟨t3, ⟨α1, α2, α3, α4, α5, α6, β1, β2, a1, fun i hi => ⟨fun q => f1.1 i q (by (try dsimp only); omega), fun q => f1.2 i (by (try dsimp only); omega) q⟩, a2, fun i hi => ⟨fun q => f2.1 i q (by (try dsimp only); omega), fun q => f2.2 i (by (try dsimp only); omega) q⟩, a3, fun i hi => ⟨fun q => f3.1 i q (fun h => h), fun q => f3.2 i (by (try dsimp only); omega) q⟩, a4, fun i hi => ⟨fun q => f4.1 i q (fun h => h), fun q => f4.2 i (by (try dsimp only); omega) q⟩, a5, fun i hi => ⟨fun q => f5.1 i q (fun h => h), fun q => f5.2 i (by (try dsimp only); omega) q⟩, a6, fun i hi => ⟨fun q => f6.1 i q (fun h => h), fun q => f6.2 i (by (try dsimp only); omega) q⟩, ?_, ?_, b2, fun i hi => ⟨fun q => h2.1 i q (by (try dsimp only); omega), fun q => h2.2 i (by (try dsimp only); omega) q⟩, ?_⟩, ⟨⟨rt3, ?_, fun g hg hne => absurd (p5 g hg) hne, fun g hg k k' _ h => ?_, fun i hi => ?_⟩, ?_⟩, fun j _ => ?_⟩
  · rw [← e1, ← e2, ← e3]; exact b1
  · rw [← e1, ← e2, ← e3]
    exact fun i hi => ⟨fun q => h1.1 i q (by (try dsimp only); omega), fun q => h1.2 i (by (try dsimp only); omega) q⟩
  · rw [← c0, ← c1, ← c2]; exact c3
  · exact wt_M_no (wt_M_no (wt_M_no (wt_M_no m2 c0 (by decide)) c1 (by decide)) c2 (by decide)) c3 (by decide)
  · rw [z276] at h
    omega
  · rw [z41] at hi
    omega
  · rw [tf, tf, h2.1 1 2 (by (try dsimp only); omega), h1.1 1 2 (by (try dsimp only); omega), zf3 1 2 (by omega), h2.1 108 1 (by (try dsimp only); omega), h1.1 108 1 (by (try dsimp only); omega), zf3 108 1 (by omega)]
  · rw [ta 2 j (by decide), ta 109 j (by decide), h2.2 2 (by (try dsimp only); omega), h1.2 2 (by (try dsimp only); omega), g3.2 2 (fun h => h), g2.2 2 (fun h => h), g1.2 2 (fun h => h), f6.2 2 (by (try dsimp only); omega), f5.2 2 (by (try dsimp only); omega), f4.2 2 (by (try dsimp only); omega), f3.2 2 (by (try dsimp only); omega), f2.2 2 (by (try dsimp only); omega), f1.2 2 (by (try dsimp only); omega), h2.2 109 (by (try dsimp only); omega), h1.2 109 (by (try dsimp only); omega), za3 109 j (by omega)]
    rfl
end WTQ0
-- 97b.made1.lean.txt
section WTQ1
set_option maxHeartbeats 4000000 in
theorem wt_made_fr (n : Nat) (hn : 4294967297 < n) {σ : wt_St} (hm : wt_made n σ) : (∀ i k, ¬ ((i = 1 ∧ k = 7) ∨ (i = 4 ∧ k = 7) ∨ (i = 12 ∧ k = 7) ∨ (i = 81 ∧ k = 9) ∨ (i = 108 ∧ (k = 3 ∨ k = 24 ∨ k = 25))) → wt_gf σ i k = 0) ∧ wt_gf σ 1 7 = -1 ∧ wt_gf σ 108 3 = -1 := by
  obtain ⟨α1, α2, α3, α4, α5, α6, β1, β2, a1, -, a2, -, a3, -, a4, -, a5, -, a6, -, b1, -, b2, -, hs⟩ := hm
  have f1 := (wq_ld_clear n hn 4 _).h _ a1
  have f2 := (wq_ld_clear n hn 12 _).h _ a2
  have f3 := (wq_st_clearPages n hn 39 _).h _ a3
  have f4 := (wq_st_clearPages n hn 49 _).h _ a4
  have f5 := (wq_st_clearPages n hn 58 _).h _ a5
  have f6 := (wq_st_clearPages n hn 67 _).h _ a6
  have g1 := (wh_clearsCase n _ b1).1
  have g2 := (wh_takesCase n _ b2).1
  obtain ⟨s1, e1⟩ : ∃ o : wt_St, o = wt_sf α6 81 9 (-1 : Int32) := ⟨_, rfl⟩
  rw [← e1] at g1
  obtain ⟨s2, e2⟩ : ∃ o : wt_St, o = wt_sf s1 0 14 (0 : Int32) := ⟨_, rfl⟩
  rw [← e2] at g1
  obtain ⟨s3, e3⟩ : ∃ o : wt_St, o = wt_sf s2 108 3 (-1 : Int32) := ⟨_, rfl⟩
  rw [← e3] at g1
  have h1 := wt_fr_sf e1
  have h2 := wt_fr_sf e2
  have h3 := wt_fr_sf e3
  have S : ∀ i k, wt_gf σ i k = wt_gf β2 i k := fun i k => by rw [hs]; rfl
  have Z : ∀ i k, (i = 1 ∧ k = 7) ∨ ¬ ((i = 4 ∧ k = 7) ∨ (i = 12 ∧ k = 7)) → wt_gf α6 i k = wt_gf (wt_sf wt_z 1 7 (-1 : Int32)) i k := fun i k h => by
    rw [f6.1 i k (fun h => h), f5.1 i k (fun h => h), f4.1 i k (fun h => h), f3.1 i k (fun h => h), f2.1 i k (by (try dsimp only); omega), f1.1 i k (by (try dsimp only); omega)]
  refine ⟨fun i k h => ?_, ?_, ?_⟩
  · rw [S, g2.1 i k (by (try dsimp only); omega), g1.1 i k (by (try dsimp only); omega), h3.1 i k (by (try dsimp only); omega)]
    by_cases h0 : i = 0 ∧ k = 14
    · rw [h0.1, h0.2]
      exact wt_v_sf e2
    · rw [h2.1 i k h0, h1.1 i k (by (try dsimp only); omega), Z i k (by omega), wt_gf_sf, if_neg (by omega)]
      rfl
  · rw [S, g2.1 1 7 (by decide), g1.1 1 7 (by decide), h3.1 1 7 (by decide), h2.1 1 7 (by decide), h1.1 1 7 (by decide), Z 1 7 (Or.inl ⟨rfl, rfl⟩)]
    exact wt_v_sf rfl
  · rw [S, g2.1 108 3 (by decide), g1.1 108 3 (by decide)]
    exact wt_v_sf e3
theorem wt_made_Q1 (n : Nat) (hn : 4294967297 < n) {σ : wt_St} (hm : wt_made n σ) : wu_Q1 σ := by
  obtain ⟨Z, p, q⟩ := wt_made_fr n hn hm
  have k0 : (0 : Int32).toInt = 0 := by decide
  refine ⟨⟨0, 0, ⟨?_, ?_, by omega⟩, ⟨?_, ?_, by omega⟩, fun w hw => absurd hw (by omega), ⟨fun g hg => absurd hg (by omega), fun w hw => absurd hw (by omega)⟩⟩, ⟨?_, fun t ht => ?_⟩, p.trans q.symm, ?_⟩
  · rw [Z 20 6 (by omega)]; exact k0
  · rw [Z 108 28 (by omega)]; exact k0
  · rw [Z 20 7 (by omega)]; exact k0
  · rw [Z 108 30 (by omega)]; exact k0
  · rw [Z 34 4 (by omega), Z 108 39 (by omega)]
  · rw [Z 108 39 (by omega)] at ht
    omega
  · rw [Z 0 14 (by omega), Z 108 41 (by omega)]
end WTQ1
-- 97c.made2.lean.txt
section WTQ2
/-! the start: case, pieces, pages, wants, images -/
theorem wh_ldclear4 (n : Nat) {σ : wt_St} : wt_H (wp_ld_clear n 4 σ) (fun q => wt_fr (fun i k => i = 4 ∧ k = 7) (fun i => 5 ≤ i ∧ i < 12) σ q ∧ (∀ l, l < 26 → wt_ga q 5 l = 0) ∧ (∀ l, l < 26 → wt_ga q 7 l = 0) ∧ (∀ l, l < 26 → wt_ga q 9 l = 1) ∧ (∀ l, l < 26 → wt_ga q 10 l = -1) ∧ (∀ m, m < 4 → wt_ga q 11 m = 0) ∧ wt_gf q 4 7 = 0) := by
  unfold wp_ld_clear
  refine wt_H_bh (wh_fillRow n (a := 5)) (fun q1 h1 => ?_)
  refine wt_H_bh (wh_fillRow n (a := 6)) (fun q2 h2 => ?_)
  refine wt_H_bh (wh_fillRow n (a := 7)) (fun q3 h3 => ?_)
  refine wt_H_bh (wh_fillRow n (a := 8)) (fun q4 h4 => ?_)
  refine wt_H_bh (wh_fillRow n (a := 9)) (fun q5 h5 => ?_)
  refine wt_H_bh (wh_fillRow n (a := 10)) (fun q6 h6 => ?_)
  refine wt_H_bh (wh_fillRow n (a := 11)) (fun q7 h7 => ?_)
  obtain ⟨q8, ε⟩ : ∃ o : wt_St, o = wt_sf q7 4 7 (0 : Int32) := ⟨_, rfl⟩
  rw [← ε]
  have f8 := wt_fr_sf ε
  have W : ∀ {a : Nat} {s s' : wt_St}, wt_fr (fun _ _ => False) (fun i => i = a) s s' → 5 ≤ a → a < 12 → wt_fr (fun i k => i = 4 ∧ k = 7) (fun i => 5 ≤ i ∧ i < 12) s s' := fun f h1 h2 => wt_frw f (fun i k h => h.elim) (fun i h => by omega)
  have T : ∀ {s s' s'' : wt_St}, wt_fr (fun i k => i = 4 ∧ k = 7) (fun i => 5 ≤ i ∧ i < 12) s s' → wt_fr (fun i k => i = 4 ∧ k = 7) (fun i => 5 ≤ i ∧ i < 12) s' s'' → wt_fr (fun i k => i = 4 ∧ k = 7) (fun i => 5 ≤ i ∧ i < 12) s s'' := fun f g => wt_fr.tr f g (fun i k h => h) (fun i h => h)
  refine wt_H_some ⟨T (T (T (T (T (T (T (W h1.1 (by omega) (by omega)) (W h2.1 (by omega) (by omega))) (W h3.1 (by omega) (by omega))) (W h4.1 (by omega) (by omega))) (W h5.1 (by omega) (by omega))) (W h6.1 (by omega) (by omega))) (W h7.1 (by omega) (by omega))) (wt_frw f8 (fun i k h => h) (fun i h => h.elim)), fun l hl => ?_, fun l hl => ?_, fun l hl => ?_, fun l hl => ?_, fun l hl => ?_, wt_v_sf ε⟩
  · rw [f8.2 5 (fun h => h), h7.1.2 5 (by decide), h6.1.2 5 (by decide), h5.1.2 5 (by decide), h4.1.2 5 (by decide), h3.1.2 5 (by decide), h2.1.2 5 (by decide)]
    exact h1.2 l hl
  · rw [f8.2 7 (fun h => h), h7.1.2 7 (by decide), h6.1.2 7 (by decide), h5.1.2 7 (by decide), h4.1.2 7 (by decide)]
    exact h3.2 l hl
  · rw [f8.2 9 (fun h => h), h7.1.2 9 (by decide), h6.1.2 9 (by decide)]
    exact h5.2 l hl
  · rw [f8.2 10 (fun h => h), h7.1.2 10 (by decide)]
    exact h6.2 l hl
  · rw [f8.2 11 (fun h => h)]
    exact h7.2 l hl
theorem wh_clearPages39 (n : Nat) {σ : wt_St} : wt_H (wp_st_clearPages n 39 σ) (fun q => (∀ c, c < 312 → wt_ga q 41 c = -1) ∧ ∀ g, g < 4 → wt_ga q 43 g = -1) := by
  unfold wp_st_clearPages
  refine wt_H_bh (wh_fillRow n (a := 41)) (fun q1 h1 => ?_)
  refine wt_H_bh (wh_fillRow n (a := 43)) (fun q2 h2 => ?_)
  refine wt_H_some ⟨fun c hc => ?_, fun g hg => h2.2 g (by rw [show wt_ln 43 = 4 from by decide]; exact hg)⟩
  rw [h2.1.2 41 (by decide)]
  exact h1.2 c (by rw [show wt_ln 41 = 312 from by decide]; exact hc)
set_option maxHeartbeats 8000000 in
theorem wt_made_RM (n : Nat) (hn : 4294967297 < n) {σ : wt_St} (hm : wt_made n σ) : wu_RM σ := by
  obtain ⟨Z, -, -⟩ := wt_made_fr n hn hm
  obtain ⟨α1, α2, α3, α4, α5, α6, β1, β2, a1, -, a2, -, a3, -, a4, -, a5, -, a6, -, b1, -, b2, -, hs⟩ := hm
  have k0 : (0 : Int32).toInt = 0 := by decide
  have n0 : ((0 : Int32)).toNatClampNeg = 0 := by decide
  have n1 : ((1 : Int32)).toNatClampNeg = 1 := by decide
  have n2 : ((2 : Int32)).toNatClampNeg = 2 := by decide
  have n3 : ((3 : Int32)).toNatClampNeg = 3 := by decide
  obtain ⟨-, c5, c7, c9, c10, c11, c47⟩ := wh_ldclear4 n _ a1
  obtain ⟨p41, p43⟩ := wh_clearPages39 n _ a3
  have f2 := (wq_ld_clear n hn 12 _).h _ a2
  have f3 := (wq_st_clearPages n hn 39 _).h _ a3
  have f4 := (wq_st_clearPages n hn 49 _).h _ a4
  have f5 := (wq_st_clearPages n hn 58 _).h _ a5
  have f6 := (wq_st_clearPages n hn 67 _).h _ a6
  obtain ⟨g1, d1, d2, d3⟩ := wh_clearsCase n _ b1
  obtain ⟨g2, e1, e2, e3, e4⟩ := wh_takesCase n _ b2
  rw [n0, n1, n2, n3] at hs
  obtain ⟨s1, h1⟩ : ∃ o : wt_St, o = wt_sf α6 81 9 (-1 : Int32) := ⟨_, rfl⟩
  rw [← h1] at g1
  obtain ⟨s2, h2⟩ : ∃ o : wt_St, o = wt_sf s1 0 14 (0 : Int32) := ⟨_, rfl⟩
  rw [← h2] at g1
  obtain ⟨s3, h3⟩ : ∃ o : wt_St, o = wt_sf s2 108 3 (-1 : Int32) := ⟨_, rfl⟩
  rw [← h3] at g1
  have q1 := wt_fr_sf h1
  have q2 := wt_fr_sf h2
  have q3 := wt_fr_sf h3
  obtain ⟨t0, c0⟩ : ∃ o : wt_St, o = wt_sa β2 275 0 (-1 : Int32) := ⟨_, rfl⟩
  obtain ⟨t1, c1⟩ : ∃ o : wt_St, o = wt_sa t0 275 1 (-1 : Int32) := ⟨_, rfl⟩
  obtain ⟨t2, c2⟩ : ∃ o : wt_St, o = wt_sa t1 275 2 (-1 : Int32) := ⟨_, rfl⟩
  rw [← c0, ← c1, ← c2] at hs
  have u0 := wt_fr_sa c0
  have u1 := wt_fr_sa c1
  have u2 := wt_fr_sa c2
  have u3 := wt_fr_sa hs
  have tf : ∀ i k, wt_gf σ i k = wt_gf β2 i k := fun i k => by
    rw [u3.1 i k (fun h => h), u2.1 i k (fun h => h), u1.1 i k (fun h => h), u0.1 i k (fun h => h)]
  have ta : ∀ i j, i ≠ 275 → wt_ga σ i j = wt_ga β2 i j := fun i j h => by
    rw [u3.2 i h, u2.2 i h, u1.2 i h, u0.2 i h]
  have p5 : ∀ g, g < 4 → wt_ga σ 275 g = -1 := fun g hg => by
    have : g = 0 ∨ g = 1 ∨ g = 2 ∨ g = 3 := by omega
    rcases this with rfl | rfl | rfl | rfl
    · rw [wt_w_sa hs 0 (by decide), wt_w_sa c2 0 (by decide), wt_w_sa c1 0 (by decide)]; exact wt_v_sa c0
    · rw [wt_w_sa hs 1 (by decide), wt_w_sa c2 1 (by decide)]; exact wt_v_sa c1
    · rw [wt_w_sa hs 2 (by decide)]; exact wt_v_sa c2
    · exact wt_v_sa hs
  -- the class's rows
  have ca : ∀ i j, i < 108 → wt_ga σ i j = wt_ga α6 i j := fun i j h => by
    rw [ta i j (by omega), g2.2 i (by (try dsimp only); omega), g1.2 i (by (try dsimp only); omega), q3.2 i (fun h => h), q2.2 i (fun h => h), q1.2 i (fun h => h)]
  have cl : ∀ i j, 4 < i → i < 12 → wt_ga σ i j = wt_ga α1 i j := fun i j h h' => by
    rw [ca i j (by omega), f6.2 i (by (try dsimp only); omega), f5.2 i (by (try dsimp only); omega), f4.2 i (by (try dsimp only); omega), f3.2 i (by (try dsimp only); omega), f2.2 i (by (try dsimp only); omega)]
  have cp : ∀ i j, i = 41 ∨ i = 43 → wt_ga σ i j = wt_ga α3 i j := fun i j h => by
    rw [ca i j (by omega), f6.2 i (by (try dsimp only); omega), f5.2 i (by (try dsimp only); omega), f4.2 i (by (try dsimp only); omega)]
  have c47' : wt_gf σ 4 7 = 0 := by
    rw [tf, g2.1 4 7 (by decide), g1.1 4 7 (by decide), q3.1 4 7 (by decide), q2.1 4 7 (by decide), q1.1 4 7 (by decide), f6.1 4 7 (fun h => h), f5.1 4 7 (fun h => h), f4.1 4 7 (fun h => h), f3.1 4 7 (fun h => h), f2.1 4 7 (by decide)]
    exact c47
  have m0 : ∀ l, l < 26 → wt_ga σ 111 l = 0 := fun l hl => by
    rw [ta 111 l (by decide), (e1 l hl).1]
    exact (d1 l hl).1
  have w0 : ∀ l, l < 26 → wt_ga σ 5 l = 0 := fun l hl => by
    rw [cl 5 l (by omega) (by omega)]
    exact c5 l hl
  refine ⟨⟨fun l hl => ?_, fun l hl => ?_, fun l hl => ?_, fun l hl => ?_, fun m hm => ?_, ?_⟩, ⟨?_, ?_, fun l hl => ⟨fun i hi => ?_, fun i hi _ => ?_⟩, fun g hg => ⟨?_, fun h => ?_⟩⟩, ⟨?_, fun i hi => ?_⟩⟩
  · rw [w0 l hl, m0 l hl, k0]
    exact ⟨rfl, by omega, by omega⟩
  · have z7 : wt_ga σ 7 l = 0 := by rw [cl 7 l (by omega) (by omega)]; exact c7 l hl
    have z113 : wt_ga σ 113 l = 0 := by rw [ta 113 l (by decide), (e1 l hl).2.1]; exact (d1 l hl).2.1
    rw [z7, z113, k0]
    exact ⟨rfl, by omega, by omega, fun i hi => by omega⟩
  · rw [cl 9 l (by omega) (by omega), ta 115 l (by decide), (e1 l hl).2.2.1, (d1 l hl).2.2.1]
    exact c9 l hl
  · rw [cl 10 l (by omega) (by omega), ta 117 l (by decide), (e1 l hl).2.2.2, (d1 l hl).2.2.2]
    exact c10 l hl
  · rw [cl 11 m (by omega) (by omega), ta 119 m (by decide), e2 m hm, d2 m hm]
    exact c11 m hm
  · rw [c47', tf 108 25, e4, d3]
  · show wu_SH (wt_gf σ 39 9) (wt_gf σ 108 26)
    rw [Z 39 9 (by omega), Z 108 26 (by omega)]
    exact ⟨rfl, by rw [k0]; omega, by rw [k0]; omega⟩
  · show wu_SW _ _ _ _ _ (wt_gf σ 39 8) _ (wt_gf σ 108 40)
    rw [Z 39 8 (by omega), Z 108 40 (by omega)]
    exact ⟨rfl, ⟨by rw [k0]; omega, by rw [k0]; omega⟩, fun k hk => by rw [k0] at hk; omega⟩
  · rw [m0 l hl, k0] at hi
    omega
  · show (wt_ga σ 41 (12 * l + i)).toInt = -1
    rw [cp 41 _ (Or.inl rfl), p41 _ (by omega)]
    exact wt_lm1
  · show wt_ga σ 43 g = wt_ga σ 275 g
    rw [cp 43 _ (Or.inr rfl), p43 g hg, p5 g hg]
  · exact absurd (by rw [p5 g hg]; exact wt_lm1) h
  · rw [Z 0 14 (by omega), Z 108 41 (by omega)]
  · rw [Z 108 41 (by omega), k0] at hi
    omega
end WTQ2
-- 97d.q2.lean.txt
section WTQ3
/-! what stands alike between the calls, whole -/
def wu_Q2 (σ : wt_St) : Prop := wu_Q1 σ ∧ wu_RM σ
theorem wu_RL_mid {σ σ1 : wt_St} {F : Nat → Nat → Prop} {A : Nat → Prop} (jt : wt_JT σ) (j : wu_Q2 σ) (r0 : wt_RI σ) (f : wt_fr F A σ σ1) (h3 : ∀ k, ¬ F 108 k) (h4 : ∀ i, 108 ≤ i → ¬ A i) : wu_RL σ σ1 := by
  obtain ⟨a, b⟩ := wu_mid j.1.1 j.1.2.1 r0 f h3 h4
  obtain ⟨c, d, e⟩ := wu_midM j.2 r0 f h3 h4
  exact ⟨fun i hi => by rw [f.2 109 (h4 109 (by omega))]; exact jt i hi, by rw [f.1 108 3 (h3 3)]; exact j.1.2.2.1, a, c, b, d, e⟩
theorem wt_made_Q2 (n : Nat) (hn : 4294967297 < n) {σ : wt_St} (hm : wt_made n σ) : wu_Q2 σ := ⟨wt_made_Q1 n hn hm, wt_made_RM n hn hm⟩
theorem wk3_feed (n : Nat) (hn : 4294967297 < n) {σ : wt_St} (x1 x2 x3 x4 x5 : Int32) (v : wt_IV σ) (j : wu_Q2 σ) : wt_H (wp_ap_feed n x1 x2 x3 x4 x5 σ) (fun q => wt_H (wp_md_feed n x1 x2 x3 x4 x5 q.2) (fun r => wu_Q2 r.2)) := by
  intro q hq r hr
  have h1 := wk1_feed n hn x1 x2 x3 x4 x5 v j.1 q hq r hr
  have h2 := wk2_feed n hn x1 x2 x3 x4 x5 v j.2 q hq r hr
  exact ⟨h1, h2⟩
set_option maxHeartbeats 1000000 in
theorem wa3_kase (n : Nat) (hn : 4294967297 < n) {σ : wt_St} (x1 : Int32) (v : wt_IV σ) (ti : (wt_gf σ 1 2).toInt = (wt_gf σ 108 1).toInt) (jt : wt_JT σ) (j : wu_Q2 σ) : wt_H (wp_ap_kase n x1 σ) (fun q => wt_H (wp_md_kase n x1 q.2.2) (fun r => ((q.1 = 1 ∧ wt_gf r.2 108 0 = 1) ∨ (q.1 = 0 ∧ wt_gf r.2 108 0 = 0 ∧ q.2.1 = r.1)) ∧ wu_Q2 r.2)) := by
  intro q hq r hr
  have h1 := wa1_kase n hn x1 v ti jt j.1 q hq r hr
  have h2 := wk2_kase n hn x1 v ti jt j.2 q hq r hr
  exact ⟨h1.1, h1.2, h2⟩
set_option maxHeartbeats 1000000 in
theorem wa3_tongue (n : Nat) (hn : 4294967297 < n) {σ : wt_St} (x1 : Int32) (v : wt_IV σ) (ti : (wt_gf σ 1 2).toInt = (wt_gf σ 108 1).toInt) (jt : wt_JT σ) (j : wu_Q2 σ) : wt_H (wp_ap_tongue n x1 σ) (fun q => wt_H (wp_md_tongue n x1 q.2.2) (fun r => ((q.1 = 1 ∧ wt_gf r.2 108 0 = 1) ∨ (q.1 = 0 ∧ wt_gf r.2 108 0 = 0 ∧ q.2.1 = r.1)) ∧ wu_Q2 r.2)) := by
  intro q hq r hr
  have h1 := wa1_tongue n hn x1 v ti jt j.1 q hq r hr
  have h2 := wk2_tongue n hn x1 v ti jt j.2 q hq r hr
  exact ⟨h1.1, h1.2, h2⟩
set_option maxHeartbeats 1000000 in
theorem wa3_text (n : Nat) (hn : 4294967297 < n) {σ : wt_St} (x1 : Int32) (v : wt_IV σ) (ti : (wt_gf σ 1 2).toInt = (wt_gf σ 108 1).toInt) (jt : wt_JT σ) (j : wu_Q2 σ) : wt_H (wp_ap_text n x1 σ) (fun q => wt_H (wp_md_text n x1 q.2.2) (fun r => ((q.1 = 1 ∧ wt_gf r.2 108 0 = 1) ∨ (q.1 = 0 ∧ wt_gf r.2 108 0 = 0 ∧ q.2.1 = r.1)) ∧ wu_Q2 r.2)) := by
  intro q hq r hr
  have h1 := wa1_text n hn x1 v ti jt j.1 q hq r hr
  have h2 := wk2_text n hn x1 v j.2 q hq r hr
  exact ⟨h1.1, h1.2, h2⟩
set_option maxHeartbeats 1000000 in
theorem wa3_fault (n : Nat) (hn : 4294967297 < n) {σ : wt_St} (v : wt_IV σ) (ti : (wt_gf σ 1 2).toInt = (wt_gf σ 108 1).toInt) (jt : wt_JT σ) (j : wu_Q2 σ) : wt_H (wp_ap_fault n σ) (fun q => wt_H (wp_md_fault n q.2) (fun r => (q.1 = r.1) ∧ wu_Q2 r.2)) := by
  intro q hq r hr
  have h1 := wa1_fault n hn v j.1 q hq r hr
  have h2 := wk2_fault n hn v j.2 q hq r hr
  exact ⟨h1.1, h1.2, h2⟩
theorem wk3_told (n : Nat) (hn : 4294967297 < n) {σ : wt_St} (x1 : Int32) (v : wt_IV σ) (j : wu_Q2 σ) : wt_H (wp_ap_told n x1 σ) (fun q => wt_H (wp_md_told n x1 q.2.2) (fun r => wu_Q2 r.2)) := by
  intro q hq r hr
  have h1 := wk1_told n hn x1 v j.1 q hq r hr
  have h2 := wk2_told n hn x1 v j.2 q hq r hr
  exact ⟨h1, h2⟩
theorem wk3_letter (n : Nat) (hn : 4294967297 < n) {σ : wt_St} (x1 x2 : Int32) (v : wt_IV σ) (j : wu_Q2 σ) : wt_H (wp_ap_letter n x1 x2 σ) (fun q => wt_H (wp_md_letter n x1 x2 q.2.2) (fun r => wu_Q2 r.2)) := by
  intro q hq r hr
  have h1 := wk1_letter n hn x1 x2 v j.1 q hq r hr
  have h2 := wk2_letter n hn x1 x2 v j.2 q hq r hr
  exact ⟨h1, h2⟩
theorem wk3_piece (n : Nat) (hn : 4294967297 < n) {σ : wt_St} (x1 x2 x3 : Int32) (v : wt_IV σ) (j : wu_Q2 σ) : wt_H (wp_ap_piece n x1 x2 x3 σ) (fun q => wt_H (wp_md_piece n x1 x2 x3 q.2.2) (fun r => wu_Q2 r.2)) := by
  intro q hq r hr
  have h1 := wk1_piece n hn x1 x2 x3 v j.1 q hq r hr
  have h2 := wk2_piece n hn x1 x2 x3 v j.2 q hq r hr
  exact ⟨h1, h2⟩
theorem wk3_word (n : Nat) (hn : 4294967297 < n) {σ : wt_St} (x1 x2 : Int32) (v : wt_IV σ) (j : wu_Q2 σ) : wt_H (wp_ap_word n x1 x2 σ) (fun q => wt_H (wp_md_word n x1 x2 q.2.2) (fun r => wu_Q2 r.2)) := by
  intro q hq r hr
  have h1 := wk1_word n hn x1 x2 v j.1 q hq r hr
  have h2 := wk2_word n hn x1 x2 v j.2 q hq r hr
  exact ⟨h1, h2⟩
set_option maxHeartbeats 1000000 in
theorem wa3_at (n : Nat) (hn : 4294967297 < n) {σ : wt_St} (x1 x2 : Int32) (v : wt_IV σ) (ti : (wt_gf σ 1 2).toInt = (wt_gf σ 108 1).toInt) (jt : wt_JT σ) (j : wu_Q2 σ) : wt_H (wp_ap_at n x1 x2 σ) (fun q => wt_H (wp_md_at n x1 x2 q.2.2) (fun r => ((q.1 = 2 ∧ wt_gf r.2 108 0 = 1) ∨ (q.1 = 0 ∧ wt_gf r.2 108 0 = 0 ∧ q.2.1 = r.1)) ∧ wu_Q2 r.2)) := by
  intro q hq r hr
  have h1 := wa1_at n hn x1 x2 v j.1 q hq r hr
  have h2 := wk2_at n hn x1 x2 v j.2 q hq r hr
  exact ⟨h1.1, h1.2, h2⟩
theorem wk3_needs (n : Nat) (hn : 4294967297 < n) {σ : wt_St} (x1 x2 : Int32) (v : wt_IV σ) (j : wu_Q2 σ) : wt_H (wp_ap_needs n x1 x2 σ) (fun q => wt_H (wp_md_needs n x1 x2 q.2.2) (fun r => wu_Q2 r.2)) := by
  intro q hq r hr
  have h1 := wk1_needs n hn x1 x2 v j.1 q hq r hr
  have h2 := wk2_needs n hn x1 x2 v j.2 q hq r hr
  exact ⟨h1, h2⟩
set_option maxHeartbeats 1000000 in
theorem wa3_habit (n : Nat) (hn : 4294967297 < n) {σ : wt_St} (x1 : Int32) (v : wt_IV σ) (ti : (wt_gf σ 1 2).toInt = (wt_gf σ 108 1).toInt) (jt : wt_JT σ) (j : wu_Q2 σ) : wt_H (wp_ap_habit n x1 σ) (fun q => wt_H (wp_md_habit n x1 q.2.2) (fun r => ((q.1 = 1 ∧ wt_gf r.2 108 0 = 1) ∨ (q.1 = 0 ∧ wt_gf r.2 108 0 = 0 ∧ q.2.1 = r.1)) ∧ wu_Q2 r.2)) := by
  intro q hq r hr
  have h1 := wk1_habit n hn x1 v j.1 q hq r hr
  have h2 := wa2_habit n hn x1 v j.2 q hq r hr
  exact ⟨h2.1, h1, h2.2⟩
theorem wk3_can (n : Nat) (hn : 4294967297 < n) {σ : wt_St} (x1 : Int32) (v : wt_IV σ) (j : wu_Q2 σ) : wt_H (wp_ap_can n x1 σ) (fun q => wt_H (wp_md_can n x1 q.2.2) (fun r => wu_Q2 r.2)) := by
  intro q hq r hr
  have h1 := wk1_can n hn x1 v j.1 q hq r hr
  have h2 := wk2_can n hn x1 v j.2 q hq r hr
  exact ⟨h1, h2⟩
theorem wk3_lacks (n : Nat) (hn : 4294967297 < n) {σ : wt_St} (x1 x2 : Int32) (v : wt_IV σ) (j : wu_Q2 σ) : wt_H (wp_ap_lacks n x1 x2 σ) (fun q => wt_H (wp_md_lacks n x1 x2 q.2.2) (fun r => wu_Q2 r.2)) := by
  intro q hq r hr
  have h1 := wk1_lacks n hn x1 x2 v j.1 q hq r hr
  have h2 := wk2_lacks n hn x1 x2 v j.2 q hq r hr
  exact ⟨h1, h2⟩
set_option maxHeartbeats 1000000 in
theorem wa3_set (n : Nat) (hn : 4294967297 < n) {σ : wt_St} (x1 x2 : Int32) (v : wt_IV σ) (ti : (wt_gf σ 1 2).toInt = (wt_gf σ 108 1).toInt) (jt : wt_JT σ) (j : wu_Q2 σ) : wt_H (wp_ap_set n x1 x2 σ) (fun q => wt_H (wp_md_set n x1 x2 q.2.2) (fun r => ((q.1 = 2 ∧ wt_gf r.2 108 0 = 1) ∨ (q.1 = 1 ∧ wt_gf r.2 108 0 = 2) ∨ (q.1 = 0 ∧ wt_gf r.2 108 0 = 0 ∧ q.2.1 = r.1)) ∧ wu_Q2 r.2)) := by
  intro q hq r hr
  have h1 := wk1_set n hn x1 x2 v j.1 q hq r hr
  have h2 := wa2_set n hn x1 x2 v j.1.1 j.1.2.1 j.2 q hq r hr
  exact ⟨h2.1, h1, h2.2⟩
set_option maxHeartbeats 1000000 in
theorem wa3_print (n : Nat) (hn : 4294967297 < n) {σ : wt_St} (x1 x2 : Int32) (v : wt_IV σ) (ti : (wt_gf σ 1 2).toInt = (wt_gf σ 108 1).toInt) (jt : wt_JT σ) (j : wu_Q2 σ) : wt_H (wp_ap_print n x1 x2 σ) (fun q => wt_H (wp_md_print n x1 x2 q.2.2) (fun r => ((q.1 = 2 ∧ wt_gf r.2 108 0 = 1) ∨ (q.1 = 1 ∧ wt_gf r.2 108 0 = 2) ∨ (q.1 = 0 ∧ wt_gf r.2 108 0 = 0 ∧ q.2.1 = r.1)) ∧ wu_Q2 r.2)) := by
  intro q hq r hr
  have h1 := wk1_print n hn x1 x2 v j.1 q hq r hr
  have h2 := wa2_print n hn x1 x2 v j.2 q hq r hr
  exact ⟨h2.1, h1, h2.2⟩
set_option maxHeartbeats 1000000 in
theorem wa3_apart (n : Nat) (hn : 4294967297 < n) {σ : wt_St} (x1 : Int32) (v : wt_IV σ) (ti : (wt_gf σ 1 2).toInt = (wt_gf σ 108 1).toInt) (jt : wt_JT σ) (j : wu_Q2 σ) : wt_H (wp_ap_apart n x1 σ) (fun q => wt_H (wp_md_apart n x1 q.2.2) (fun r => ((q.1 = 2 ∧ wt_gf r.2 108 0 = 1) ∨ (q.1 = 0 ∧ wt_gf r.2 108 0 = 0 ∧ q.2.1 = r.1)) ∧ wu_Q2 r.2)) := by
  intro q hq r hr
  have h1 := wk1_apart n hn x1 v j.1 q hq r hr
  have h2 := wa2_apart n hn x1 v j.2 q hq r hr
  exact ⟨h2.1, h1, h2.2⟩
theorem wk3_page (n : Nat) (hn : 4294967297 < n) {σ : wt_St} (x1 x2 : Int32) (v : wt_IV σ) (j : wu_Q2 σ) : wt_H (wp_ap_page n x1 x2 σ) (fun q => wt_H (wp_md_page n x1 x2 q.2.2) (fun r => wu_Q2 r.2)) := by
  intro q hq r hr
  have h1 := wk1_page n hn x1 x2 v j.1 q hq r hr
  have h2 := wk2_page n hn x1 x2 v j.2 q hq r hr
  exact ⟨h1, h2⟩
theorem wk3_read (n : Nat) (hn : 4294967297 < n) {σ : wt_St} (x1 x2 : Int32) (v : wt_IV σ) (j : wu_Q2 σ) : wt_H (wp_ap_read n x1 x2 σ) (fun q => wt_H (wp_md_read n x1 x2 q.2.2) (fun r => wu_Q2 r.2)) := by
  intro q hq r hr
  have h1 := wk1_read n hn x1 x2 v j.1 q hq r hr
  have h2 := wk2_read n hn x1 x2 v j.2 q hq r hr
  exact ⟨h1, h2⟩
theorem wk3_least (n : Nat) (hn : 4294967297 < n) {σ : wt_St} (x1 x2 x3 : Int32) (v : wt_IV σ) (j : wu_Q2 σ) : wt_H (wp_ap_least n x1 x2 x3 σ) (fun q => wt_H (wp_md_least n x1 x2 x3 q.2.2) (fun r => wu_Q2 r.2)) := by
  intro q hq r hr
  have h1 := wk1_least n hn x1 x2 x3 v j.1 q hq r hr
  have h2 := wk2_least n hn x1 x2 x3 v j.2 q hq r hr
  exact ⟨h1, h2⟩
theorem wk3_fitting (n : Nat) (hn : 4294967297 < n) {σ : wt_St} (x1 x2 x3 x4 : Int32) (v : wt_IV σ) (j : wu_Q2 σ) : wt_H (wp_ap_fitting n x1 x2 x3 x4 σ) (fun q => wt_H (wp_md_fitting n x1 x2 x3 x4 q.2.2) (fun r => wu_Q2 r.2)) := by
  intro q hq r hr
  have h1 := wk1_fitting n hn x1 x2 x3 x4 v j.1 q hq r hr
  have h2 := wk2_fitting n hn x1 x2 x3 x4 v j.2 q hq r hr
  exact ⟨h1, h2⟩
theorem wk3_wordings (n : Nat) (hn : 4294967297 < n) {σ : wt_St} (x1 : Int32) (v : wt_IV σ) (j : wu_Q2 σ) : wt_H (wp_ap_wordings n x1 σ) (fun q => wt_H (wp_md_wordings n x1 q.2.2) (fun r => wu_Q2 r.2)) := by
  intro q hq r hr
  have h1 := wk1_wordings n hn x1 v j.1 q hq r hr
  have h2 := wk2_wordings n hn x1 v j.2 q hq r hr
  exact ⟨h1, h2⟩
set_option maxHeartbeats 1000000 in
theorem wa3_want (n : Nat) (hn : 4294967297 < n) {σ : wt_St} (x1 x2 x3 x4 : Int32) (v : wt_IV σ) (ti : (wt_gf σ 1 2).toInt = (wt_gf σ 108 1).toInt) (jt : wt_JT σ) (j : wu_Q2 σ) : wt_H (wp_ap_want n x1 x2 x3 x4 σ) (fun q => wt_H (wp_md_want n x1 x2 x3 x4 q.2.2) (fun r => ((q.1 = 2 ∧ wt_gf r.2 108 0 = 1) ∨ (q.1 = 1 ∧ wt_gf r.2 108 0 = 2) ∨ (q.1 = 0 ∧ wt_gf r.2 108 0 = 0 ∧ q.2.1 = r.1)) ∧ wu_Q2 r.2)) := by
  intro q hq r hr
  have h1 := wk1_want n hn x1 x2 x3 x4 v j.1 q hq r hr
  have h2 := wa2_want n hn x1 x2 x3 x4 v j.1.2.1 j.2 q hq r hr
  exact ⟨h2.1, h1, h2.2⟩
set_option maxHeartbeats 1000000 in
theorem wa3_forget (n : Nat) (hn : 4294967297 < n) {σ : wt_St} (v : wt_IV σ) (ti : (wt_gf σ 1 2).toInt = (wt_gf σ 108 1).toInt) (jt : wt_JT σ) (j : wu_Q2 σ) : wt_H (wp_ap_forget n σ) (fun q => wt_H (wp_md_forget n q.2) (fun r => (q.1 = r.1) ∧ wu_Q2 r.2)) := by
  intro q hq r hr
  have h1 := wk1_forget n hn v j.1 q hq r hr
  have h2 := wa2_forget n hn v j.2 q hq r hr
  exact ⟨h2.1, h1, h2.2⟩
theorem wk3_most (n : Nat) (hn : 4294967297 < n) {σ : wt_St} (x1 : Int32) (v : wt_IV σ) (j : wu_Q2 σ) : wt_H (wp_ap_most n x1 σ) (fun q => wt_H (wp_md_most n x1 q.2.2) (fun r => wu_Q2 r.2)) := by
  intro q hq r hr
  have h1 := wk1_most n hn x1 v j.1 q hq r hr
  have h2 := wk2_most n hn x1 v j.2 q hq r hr
  exact ⟨h1, h2⟩
theorem wk3_greedy (n : Nat) (hn : 4294967297 < n) {σ : wt_St} (x1 : Int32) (v : wt_IV σ) (j : wu_Q2 σ) : wt_H (wp_ap_greedy n x1 σ) (fun q => wt_H (wp_md_greedy n x1 q.2.2) (fun r => wu_Q2 r.2)) := by
  intro q hq r hr
  have h1 := wk1_greedy n hn x1 v j.1 q hq r hr
  have h2 := wk2_greedy n hn x1 v j.2 q hq r hr
  exact ⟨h1, h2⟩
theorem wk3_bound (n : Nat) (hn : 4294967297 < n) {σ : wt_St} (v : wt_IV σ) (j : wu_Q2 σ) : wt_H (wp_ap_bound n σ) (fun q => wt_H (wp_md_bound n q.2) (fun r => wu_Q2 r.2)) := by
  intro q hq r hr
  have h1 := wk1_bound n hn v j.1 q hq r hr
  have h2 := wk2_bound n hn v j.2 q hq r hr
  exact ⟨h1, h2⟩
theorem wk3_said (n : Nat) (hn : 4294967297 < n) {σ : wt_St} (x1 x2 : Int32) (v : wt_IV σ) (j : wu_Q2 σ) : wt_H (wp_ap_said n x1 x2 σ) (fun q => wt_H (wp_md_said n x1 x2 q.2.2) (fun r => wu_Q2 r.2)) := by
  intro q hq r hr
  have h1 := wk1_said n hn x1 x2 v j.1 q hq r hr
  have h2 := wk2_said n hn x1 x2 v j.2 q hq r hr
  exact ⟨h1, h2⟩
theorem wk3_lost (n : Nat) (hn : 4294967297 < n) {σ : wt_St} (x1 : Int32) (v : wt_IV σ) (j : wu_Q2 σ) : wt_H (wp_ap_lost n x1 σ) (fun q => wt_H (wp_md_lost n x1 q.2.2) (fun r => wu_Q2 r.2)) := by
  intro q hq r hr
  have h1 := wk1_lost n hn x1 v j.1 q hq r hr
  have h2 := wk2_lost n hn x1 v j.2 q hq r hr
  exact ⟨h1, h2⟩
theorem wk3_ends (n : Nat) (hn : 4294967297 < n) {σ : wt_St} (x1 : Int32) (v : wt_IV σ) (j : wu_Q2 σ) : wt_H (wp_ap_ends n x1 σ) (fun q => wt_H (wp_md_ends n x1 q.2.2) (fun r => wu_Q2 r.2)) := by
  intro q hq r hr
  have h1 := wk1_ends n hn x1 v j.1 q hq r hr
  have h2 := wk2_ends n hn x1 v j.2 q hq r hr
  exact ⟨h1, h2⟩
theorem wk3_exchange (n : Nat) (hn : 4294967297 < n) {σ : wt_St} (x1 : Int32) (v : wt_IV σ) (j : wu_Q2 σ) : wt_H (wp_ap_exchange n x1 σ) (fun q => wt_H (wp_md_exchange n x1 q.2.2) (fun r => wu_Q2 r.2)) := by
  intro q hq r hr
  have h1 := wk1_exchange n hn x1 v j.1 q hq r hr
  have h2 := wk2_exchange n hn x1 v j.2 q hq r hr
  exact ⟨h1, h2⟩
theorem wk3_cast (n : Nat) (hn : 4294967297 < n) {σ : wt_St} (x1 x2 : Int32) (v : wt_IV σ) (j : wu_Q2 σ) : wt_H (wp_ap_cast n x1 x2 σ) (fun q => wt_H (wp_md_cast n x1 x2 q.2.2) (fun r => wu_Q2 r.2)) := by
  intro q hq r hr
  have h1 := wk1_cast n hn x1 x2 v j.1 q hq r hr
  have h2 := wk2_cast n hn x1 x2 v j.2 q hq r hr
  exact ⟨h1, h2⟩
theorem wk3_together (n : Nat) (hn : 4294967297 < n) {σ : wt_St} (x1 : Int32) (v : wt_IV σ) (j : wu_Q2 σ) : wt_H (wp_ap_together n x1 σ) (fun q => wt_H (wp_md_together n x1 q.2.2) (fun r => wu_Q2 r.2)) := by
  intro q hq r hr
  have h1 := wk1_together n hn x1 v j.1 q hq r hr
  have h2 := wk2_together n hn x1 v j.2 q hq r hr
  exact ⟨h1, h2⟩
set_option maxHeartbeats 1000000 in
theorem wa3_image (n : Nat) (hn : 4294967297 < n) {σ : wt_St} (v : wt_IV σ) (ti : (wt_gf σ 1 2).toInt = (wt_gf σ 108 1).toInt) (jt : wt_JT σ) (j : wu_Q2 σ) : wt_H (wp_ap_image n σ) (fun q => wt_H (wp_md_image n q.2) (fun r => (q.1 = r.1) ∧ wu_Q2 r.2)) := by
  intro q hq r hr
  have h1 := wa1_image n hn v j.1 q hq r hr
  have h2 := wk2_image n hn v j.2 q hq r hr
  exact ⟨h1.1, h1.2, h2⟩
set_option maxHeartbeats 1000000 in
theorem wa3_restore (n : Nat) (hn : 4294967297 < n) {σ : wt_St} (v : wt_IV σ) (ti : (wt_gf σ 1 2).toInt = (wt_gf σ 108 1).toInt) (jt : wt_JT σ) (j : wu_Q2 σ) : wt_H (wp_ap_restore n σ) (fun q => wt_H (wp_md_restore n q.2) (fun r => (q.1 = r.1) ∧ wu_Q2 r.2)) := by
  intro q hq r hr
  have h1 := wa1_restore n hn v j.1 q hq r hr
  have h2 := wk2_restore n hn v j.2 q hq r hr
  exact ⟨h1.1, h1.2, h2⟩
set_option maxHeartbeats 1000000 in
theorem wa3_count (n : Nat) (hn : 4294967297 < n) {σ : wt_St} (x1 : Int32) (v : wt_IV σ) (ti : (wt_gf σ 1 2).toInt = (wt_gf σ 108 1).toInt) (jt : wt_JT σ) (j : wu_Q2 σ) : wt_H (wp_ap_count n x1 σ) (fun q => wt_H (wp_md_count n x1 q.2) (fun r => (q.1 = r.1) ∧ wu_Q2 r.2)) := by
  intro q hq r hr
  have h1 := wa1_count n hn x1 v ti j.1 q hq r hr
  have h2 := wk2_count n hn x1 v j.2 q hq r hr
  exact ⟨h1.1, h1.2, h2⟩
end WTQ3
