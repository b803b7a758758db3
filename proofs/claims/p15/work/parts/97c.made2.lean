/-! the start: case, pieces, pages, wants, images -/
theorem wh_ldclear4 (n : Nat) {σ : wt_St} : wt_H (wp_ld_clear n 4 σ) (fun q => wt_fr (fun i k => i = 4 ∧ k = 7) (fun i => 5 ≤ i ∧ i < 12) σ q ∧ (∀ l, l < 26 → wt_ga q 5 l = 0) ∧ (∀ l, l < 26 → wt_ga q 7 l = 0) ∧ (∀ l, l < 26 → wt_ga q 9 l = 1) ∧ (∀ l, l < 26 → wt_ga q 10 l = -1) ∧ (∀ m, m < 4 → wt_ga q 11 m = 0) ∧ wt_gf q 4 7 = 0) := by
  unfold wp_ld_clear
  refine wt_H_bh (wh_fillRow n (a := 5)) (fun q1 h1 => ?_)
  refine wt_H_bh (wh_fillRow n (a := 6)) (fun q2 h2 => ?_)
  refine wt_H_bh (wh_fillRow n (a := 7)) (fun q3 h3 => ?_)
  refine wt_H_bh (wh_fillRow n (a := 8)) (fun q4 h4 => ?_)
  refine wt_H_bh (wh_fillRow n (a := 9)) (fun q5 h5 => ?_)
  refine wt_H_bh (wh_fillRow n (a := 10)) (fun q6 h6 => ?_)
  refine wt_H_bh (wh_fillRow n (a := 11)) (fun q7 h7 => ?_)
  obtain ⟨q8, ε⟩ : ∃ o : wt_St, o = wt_sf q7 4 7 (0 : Int32) := ⟨_, rfl⟩
  rw [← ε]
  have f8 := wt_fr_sf ε
  have W : ∀ {a : Nat} {s s' : wt_St}, wt_fr (fun _ _ => False) (fun i => i = a) s s' → 5 ≤ a → a < 12 → wt_fr (fun i k => i = 4 ∧ k = 7) (fun i => 5 ≤ i ∧ i < 12) s s' := fun f h1 h2 => wt_frw f (fun i k h => h.elim) (fun i h => by omega)
  have T : ∀ {s s' s'' : wt_St}, wt_fr (fun i k => i = 4 ∧ k = 7) (fun i => 5 ≤ i ∧ i < 12) s s' → wt_fr (fun i k => i = 4 ∧ k = 7) (fun i => 5 ≤ i ∧ i < 12) s' s'' → wt_fr (fun i k => i = 4 ∧ k = 7) (fun i => 5 ≤ i ∧ i < 12) s s'' := fun f g => wt_fr.tr f g (fun i k h => h) (fun i h => h)
  refine wt_H_some ⟨T (T (T (T (T (T (T (W h1.1 (by omega) (by omega)) (W h2.1 (by omega) (by omega))) (W h3.1 (by omega) (by omega))) (W h4.1 (by omega) (by omega))) (W h5.1 (by omega) (by omega))) (W h6.1 (by omega) (by omega))) (W h7.1 (by omega) (by omega))) (wt_frw f8 (fun i k h => h) (fun i h => h.elim)), fun l hl => ?_, fun l hl => ?_, fun l hl => ?_, fun l hl => ?_, fun l hl => ?_, wt_v_sf ε⟩
  · rw [f8.2 5 (fun h => h), h7.1.2 5 (by decide), h6.1.2 5 (by decide), h5.1.2 5 (by decide), h4.1.2 5 (by decide), h3.1.2 5 (by decide), h2.1.2 5 (by decide)]
    exact h1.2 l hl
  · rw [f8.2 7 (fun h => h), h7.1.2 7 (by decide), h6.1.2 7 (by decide), h5.1.2 7 (by decide), h4.1.2 7 (by decide)]
    exact h3.2 l hl
  · rw [f8.2 9 (fun h => h), h7.1.2 9 (by decide), h6.1.2 9 (by decide)]
    exact h5.2 l hl
  · rw [f8.2 10 (fun h => h), h7.1.2 10 (by decide)]
    exact h6.2 l hl
  · rw [f8.2 11 (fun h => h)]
    exact h7.2 l hl
theorem wh_clearPages39 (n : Nat) {σ : wt_St} : wt_H (wp_st_clearPages n 39 σ) (fun q => (∀ c, c < 312 → wt_ga q 41 c = -1) ∧ ∀ g, g < 4 → wt_ga q 43 g = -1) := by
  unfold wp_st_clearPages
  refine wt_H_bh (wh_fillRow n (a := 41)) (fun q1 h1 => ?_)
  refine wt_H_bh (wh_fillRow n (a := 43)) (fun q2 h2 => ?_)
  refine wt_H_some ⟨fun c hc => ?_, fun g hg => h2.2 g (by rw [show wt_ln 43 = 4 from by decide]; exact hg)⟩
  rw [h2.1.2 41 (by decide)]
  exact h1.2 c (by rw [show wt_ln 41 = 312 from by decide]; exact hc)
set_option maxHeartbeats 8000000 in
theorem wt_made_RM (n : Nat) (hn : 4294967297 < n) {σ : wt_St} (hm : wt_made n σ) : wu_RM σ := by
  obtain ⟨Z, -, -⟩ := wt_made_fr n hn hm
  obtain ⟨α1, α2, α3, α4, α5, α6, β1, β2, a1, -, a2, -, a3, -, a4, -, a5, -, a6, -, b1, -, b2, -, hs⟩ := hm
  have k0 : (0 : Int32).toInt = 0 := by decide
  have n0 : ((0 : Int32)).toNatClampNeg = 0 := by decide
  have n1 : ((1 : Int32)).toNatClampNeg = 1 := by decide
  have n2 : ((2 : Int32)).toNatClampNeg = 2 := by decide
  have n3 : ((3 : Int32)).toNatClampNeg = 3 := by decide
  obtain ⟨-, c5, c7, c9, c10, c11, c47⟩ := wh_ldclear4 n _ a1
  obtain ⟨p41, p43⟩ := wh_clearPages39 n _ a3
  have f2 := (wq_ld_clear n hn 12 _).h _ a2
  have f3 := (wq_st_clearPages n hn 39 _).h _ a3
  have f4 := (wq_st_clearPages n hn 49 _).h _ a4
  have f5 := (wq_st_clearPages n hn 58 _).h _ a5
  have f6 := (wq_st_clearPages n hn 67 _).h _ a6
  obtain ⟨g1, d1, d2, d3⟩ := wh_clearsCase n _ b1
  obtain ⟨g2, e1, e2, e3, e4⟩ := wh_takesCase n _ b2
  rw [n0, n1, n2, n3] at hs
  obtain ⟨s1, h1⟩ : ∃ o : wt_St, o = wt_sf α6 81 9 (-1 : Int32) := ⟨_, rfl⟩
  rw [← h1] at g1
  obtain ⟨s2, h2⟩ : ∃ o : wt_St, o = wt_sf s1 0 14 (0 : Int32) := ⟨_, rfl⟩
  rw [← h2] at g1
  obtain ⟨s3, h3⟩ : ∃ o : wt_St, o = wt_sf s2 108 3 (-1 : Int32) := ⟨_, rfl⟩
  rw [← h3] at g1
  have q1 := wt_fr_sf h1
  have q2 := wt_fr_sf h2
  have q3 := wt_fr_sf h3
  obtain ⟨t0, c0⟩ : ∃ o : wt_St, o = wt_sa β2 275 0 (-1 : Int32) := ⟨_, rfl⟩
  obtain ⟨t1, c1⟩ : ∃ o : wt_St, o = wt_sa t0 275 1 (-1 : Int32) := ⟨_, rfl⟩
  obtain ⟨t2, c2⟩ : ∃ o : wt_St, o = wt_sa t1 275 2 (-1 : Int32) := ⟨_, rfl⟩
  rw [← c0, ← c1, ← c2] at hs
  have u0 := wt_fr_sa c0
  have u1 := wt_fr_sa c1
  have u2 := wt_fr_sa c2
  have u3 := wt_fr_sa hs
  have tf : ∀ i k, wt_gf σ i k = wt_gf β2 i k := fun i k => by
    rw [u3.1 i k (fun h => h), u2.1 i k (fun h => h), u1.1 i k (fun h => h), u0.1 i k (fun h => h)]
  have ta : ∀ i j, i ≠ 275 → wt_ga σ i j = wt_ga β2 i j := fun i j h => by
    rw [u3.2 i h, u2.2 i h, u1.2 i h, u0.2 i h]
  have p5 : ∀ g, g < 4 → wt_ga σ 275 g = -1 := fun g hg => by
    have : g = 0 ∨ g = 1 ∨ g = 2 ∨ g = 3 := by omega
    rcases this with rfl | rfl | rfl | rfl
    · rw [wt_w_sa hs 0 (by decide), wt_w_sa c2 0 (by decide), wt_w_sa c1 0 (by decide)]; exact wt_v_sa c0
    · rw [wt_w_sa hs 1 (by decide), wt_w_sa c2 1 (by decide)]; exact wt_v_sa c1
    · rw [wt_w_sa hs 2 (by decide)]; exact wt_v_sa c2
    · exact wt_v_sa hs
  -- the class's rows
  have ca : ∀ i j, i < 108 → wt_ga σ i j = wt_ga α6 i j := fun i j h => by
    rw [ta i j (by omega), g2.2 i (by (try dsimp only); omega), g1.2 i (by (try dsimp only); omega), q3.2 i (fun h => h), q2.2 i (fun h => h), q1.2 i (fun h => h)]
  have cl : ∀ i j, 4 < i → i < 12 → wt_ga σ i j = wt_ga α1 i j := fun i j h h' => by
    rw [ca i j (by omega), f6.2 i (by (try dsimp only); omega), f5.2 i (by (try dsimp only); omega), f4.2 i (by (try dsimp only); omega), f3.2 i (by (try dsimp only); omega), f2.2 i (by (try dsimp only); omega)]
  have cp : ∀ i j, i = 41 ∨ i = 43 → wt_ga σ i j = wt_ga α3 i j := fun i j h => by
    rw [ca i j (by omega), f6.2 i (by (try dsimp only); omega), f5.2 i (by (try dsimp only); omega), f4.2 i (by (try dsimp only); omega)]
  have c47' : wt_gf σ 4 7 = 0 := by
    rw [tf, g2.1 4 7 (by decide), g1.1 4 7 (by decide), q3.1 4 7 (by decide), q2.1 4 7 (by decide), q1.1 4 7 (by decide), f6.1 4 7 (fun h => h), f5.1 4 7 (fun h => h), f4.1 4 7 (fun h => h), f3.1 4 7 (fun h => h), f2.1 4 7 (by decide)]
    exact c47
  have m0 : ∀ l, l < 26 → wt_ga σ 111 l = 0 := fun l hl => by
    rw [ta 111 l (by decide), (e1 l hl).1]
    exact (d1 l hl).1
  have w0 : ∀ l, l < 26 → wt_ga σ 5 l = 0 := fun l hl => by
    rw [cl 5 l (by omega) (by omega)]
    exact c5 l hl
  refine ⟨⟨fun l hl => ?_, fun l hl => ?_, fun l hl => ?_, fun l hl => ?_, fun m hm => ?_, ?_⟩, ⟨?_, ?_, fun l hl => ⟨fun i hi => ?_, fun i hi _ => ?_⟩, fun g hg => ⟨?_, fun h => ?_⟩⟩, ⟨?_, fun i hi => ?_⟩⟩
  · rw [w0 l hl, m0 l hl, k0]
    exact ⟨rfl, by omega, by omega⟩
  · have z7 : wt_ga σ 7 l = 0 := by rw [cl 7 l (by omega) (by omega)]; exact c7 l hl
    have z113 : wt_ga σ 113 l = 0 := by rw [ta 113 l (by decide), (e1 l hl).2.1]; exact (d1 l hl).2.1
    rw [z7, z113, k0]
    exact ⟨rfl, by omega, by omega, fun i hi => by omega⟩
  · rw [cl 9 l (by omega) (by omega), ta 115 l (by decide), (e1 l hl).2.2.1, (d1 l hl).2.2.1]
    exact c9 l hl
  · rw [cl 10 l (by omega) (by omega), ta 117 l (by decide), (e1 l hl).2.2.2, (d1 l hl).2.2.2]
    exact c10 l hl
  · rw [cl 11 m (by omega) (by omega), ta 119 m (by decide), e2 m hm, d2 m hm]
    exact c11 m hm
  · rw [c47', tf 108 25, e4, d3]
  · show wu_SH (wt_gf σ 39 9) (wt_gf σ 108 26)
    rw [Z 39 9 (by omega), Z 108 26 (by omega)]
    exact ⟨rfl, by rw [k0]; omega, by rw [k0]; omega⟩
  · show wu_SW _ _ _ _ _ (wt_gf σ 39 8) _ (wt_gf σ 108 40)
    rw [Z 39 8 (by omega), Z 108 40 (by omega)]
    exact ⟨rfl, ⟨by rw [k0]; omega, by rw [k0]; omega⟩, fun k hk => by rw [k0] at hk; omega⟩
  · rw [m0 l hl, k0] at hi
    omega
  · show (wt_ga σ 41 (12 * l + i)).toInt = -1
    rw [cp 41 _ (Or.inl rfl), p41 _ (by omega)]
    exact wt_lm1
  · show wt_ga σ 43 g = wt_ga σ 275 g
    rw [cp 43 _ (Or.inr rfl), p43 g hg, p5 g hg]
  · exact absurd (by rw [p5 g hg]; exact wt_lm1) h
  · rw [Z 0 14 (by omega), Z 108 41 (by omega)]
  · rw [Z 108 41 (by omega), k0] at hi
    omega
