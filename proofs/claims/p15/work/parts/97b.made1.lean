set_option maxHeartbeats 4000000 in
theorem wt_made_fr (n : Nat) (hn : 4294967297 < n) {σ : wt_St} (hm : wt_made n σ) : (∀ i k, ¬ ((i = 1 ∧ k = 7) ∨ (i = 4 ∧ k = 7) ∨ (i = 12 ∧ k = 7) ∨ (i = 81 ∧ k = 9) ∨ (i = 108 ∧ (k = 3 ∨ k = 24 ∨ k = 25))) → wt_gf σ i k = 0) ∧ wt_gf σ 1 7 = -1 ∧ wt_gf σ 108 3 = -1 := by
  obtain ⟨α1, α2, α3, α4, α5, α6, β1, β2, a1, -, a2, -, a3, -, a4, -, a5, -, a6, -, b1, -, b2, -, hs⟩ := hm
  have f1 := (wq_ld_clear n hn 4 _).h _ a1
  have f2 := (wq_ld_clear n hn 12 _).h _ a2
  have f3 := (wq_st_clearPages n hn 39 _).h _ a3
  have f4 := (wq_st_clearPages n hn 49 _).h _ a4
  have f5 := (wq_st_clearPages n hn 58 _).h _ a5
  have f6 := (wq_st_clearPages n hn 67 _).h _ a6
  have g1 := (wh_clearsCase n _ b1).1
  have g2 := (wh_takesCase n _ b2).1
  obtain ⟨s1, e1⟩ : ∃ o : wt_St, o = wt_sf α6 81 9 (-1 : Int32) := ⟨_, rfl⟩
  rw [← e1] at g1
  obtain ⟨s2, e2⟩ : ∃ o : wt_St, o = wt_sf s1 0 14 (0 : Int32) := ⟨_, rfl⟩
  rw [← e2] at g1
  obtain ⟨s3, e3⟩ : ∃ o : wt_St, o = wt_sf s2 108 3 (-1 : Int32) := ⟨_, rfl⟩
  rw [← e3] at g1
  have h1 := wt_fr_sf e1
  have h2 := wt_fr_sf e2
  have h3 := wt_fr_sf e3
  have S : ∀ i k, wt_gf σ i k = wt_gf β2 i k := fun i k => by rw [hs]; rfl
  have Z : ∀ i k, (i = 1 ∧ k = 7) ∨ ¬ ((i = 4 ∧ k = 7) ∨ (i = 12 ∧ k = 7)) → wt_gf α6 i k = wt_gf (wt_sf wt_z 1 7 (-1 : Int32)) i k := fun i k h => by
    rw [f6.1 i k (fun h => h), f5.1 i k (fun h => h), f4.1 i k (fun h => h), f3.1 i k (fun h => h), f2.1 i k (by (try dsimp only); omega), f1.1 i k (by (try dsimp only); omega)]
  refine ⟨fun i k h => ?_, ?_, ?_⟩
  · rw [S, g2.1 i k (by (try dsimp only); omega), g1.1 i k (by (try dsimp only); omega), h3.1 i k (by (try dsimp only); omega)]
    by_cases h0 : i = 0 ∧ k = 14
    · rw [h0.1, h0.2]
      exact wt_v_sf e2
    · rw [h2.1 i k h0, h1.1 i k (by (try dsimp only); omega), Z i k (by omega), wt_gf_sf, if_neg (by omega)]
      rfl
  · rw [S, g2.1 1 7 (by decide), g1.1 1 7 (by decide), h3.1 1 7 (by decide), h2.1 1 7 (by decide), h1.1 1 7 (by decide), Z 1 7 (Or.inl ⟨rfl, rfl⟩)]
    exact wt_v_sf rfl
  · rw [S, g2.1 108 3 (by decide), g1.1 108 3 (by decide)]
    exact wt_v_sf e3
theorem wt_made_Q1 (n : Nat) (hn : 4294967297 < n) {σ : wt_St} (hm : wt_made n σ) : wu_Q1 σ := by
  obtain ⟨Z, p, q⟩ := wt_made_fr n hn hm
  have k0 : (0 : Int32).toInt = 0 := by decide
  refine ⟨⟨0, 0, ⟨?_, ?_, by omega⟩, ⟨?_, ?_, by omega⟩, fun w hw => absurd hw (by omega), ⟨fun g hg => absurd hg (by omega), fun w hw => absurd hw (by omega)⟩⟩, ⟨?_, fun t ht => ?_⟩, p.trans q.symm, ?_⟩
  · rw [Z 20 6 (by omega)]; exact k0
  · rw [Z 108 28 (by omega)]; exact k0
  · rw [Z 20 7 (by omega)]; exact k0
  · rw [Z 108 30 (by omega)]; exact k0
  · rw [Z 34 4 (by omega), Z 108 39 (by omega)]
  · rw [Z 108 39 (by omega)] at ht
    omega
  · rw [Z 0 14 (by omega), Z 108 41 (by omega)]
