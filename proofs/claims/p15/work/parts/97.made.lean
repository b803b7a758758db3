theorem wt_z_gf (i k : Nat) : wt_gf wt_z i k = 0 := rfl
theorem wt_z_ga (i j : Nat) : wt_ga wt_z i j = 0 := rfl
set_option maxHeartbeats 4000000 in
theorem wt_made_ex (n : Nat) (hn : 4294967297 < n) : ∃ σ, wt_made n σ ∧ wt_Inv σ ∧ wt_JT σ := by
  have k0 : (0 : Int32).toInt = 0 := by decide
  obtain ⟨α1, a1, f1⟩ := wq_ld_clear n hn 4 (wt_sf wt_z 1 7 (-1 : Int32))
  obtain ⟨α2, a2, f2⟩ := wq_ld_clear n hn 12 α1
  obtain ⟨α3, a3, f3⟩ := wq_st_clearPages n hn 39 α2
  obtain ⟨α4, a4, f4⟩ := wq_st_clearPages n hn 49 α3
  obtain ⟨α5, a5, f5⟩ := wq_st_clearPages n hn 58 α4
  obtain ⟨α6, a6, f6⟩ := wq_st_clearPages n hn 67 α5
  have zf : ∀ i k, (108 ≤ i ∨ (i = 1 ∧ k = 2)) → wt_gf α6 i k = 0 := fun i k h => by
    rw [f6.1 i k (fun h => h), f5.1 i k (fun h => h), f4.1 i k (fun h => h), f3.1 i k (fun h => h), f2.1 i k (by (try dsimp only); omega), f1.1 i k (by (try dsimp only); omega), wt_gf_sf, if_neg (by omega)]
    rfl
  have za : ∀ i j, 108 ≤ i → wt_ga α6 i j = 0 := fun i j h => by
    rw [f6.2 i (by (try dsimp only); omega), f5.2 i (by (try dsimp only); omega), f4.2 i (by (try dsimp only); omega), f3.2 i (by (try dsimp only); omega), f2.2 i (by (try dsimp only); omega), f1.2 i (by (try dsimp only); omega)]
    rfl
  have r6 : wt_RI α6 := by
    refine ⟨fun q hq i q1 q2 j => ?_, fun q hq => ?_, fun i w1 w2 => ?_⟩
    · have hl : wt_fam.all (fun q => decide (108 ≤ q.1) && (decide (q.2.2.1 ≤ 0) && decide (0 ≤ q.2.2.2))) = true := by decide +kernel
      have h := List.all_eq_true.mp hl q hq
      simp only [Bool.and_eq_true, decide_eq_true_eq] at h
      rw [za i j (by omega), k0]
      exact h.2
    · have hl : wt_famF.all (fun q => decide (q.2.1 ≤ 0) && decide (0 ≤ q.2.2)) = true := by decide +kernel
      have h := List.all_eq_true.mp hl q hq
      simp only [Bool.and_eq_true, decide_eq_true_eq] at h
      rw [zf 108 q.1 (Or.inl (Nat.le_refl _)), k0]
      exact h
    · rw [za i 0 (by omega), za i 1 (by omega), k0]
      omega
  obtain ⟨s1, e1⟩ : ∃ o : wt_St, o = wt_sf α6 81 9 (-1 : Int32) := ⟨_, rfl⟩
  obtain ⟨s2, e2⟩ : ∃ o : wt_St, o = wt_sf s1 0 14 (0 : Int32) := ⟨_, rfl⟩
  obtain ⟨s3, e3⟩ : ∃ o : wt_St, o = wt_sf s2 108 3 (-1 : Int32) := ⟨_, rfl⟩
  have r1 := wt_RI_fno r6 e1 (Or.inl (by decide))
  have r2 := wt_RI_fno r1 e2 (Or.inl (by decide))
  have r3 := wt_RI_fno r2 e3 (Or.inr (by decide +kernel))
  have g1 := wt_fr_sf e1
  have g2 := wt_fr_sf e2
  have g3 := wt_fr_sf e3
  have za3 : ∀ i j, 108 ≤ i → wt_ga s3 i j = 0 := fun i j h => by
    rw [g3.2 i (fun h => h), g2.2 i (fun h => h), g1.2 i (fun h => h), za i j h]
  have zf3 : ∀ i k, (i = 108 ∧ k ≠ 3) ∨ (i = 1 ∧ k = 2) → wt_gf s3 i k = 0 := fun i k h => by
    rw [g3.1 i k (by omega), g2.1 i k (by omega), g1.1 i k (by omega), zf i k (by omega)]
  obtain ⟨β1, b1, h1, rb1⟩ := wq_md_clearsCase n hn s3 r3
  have m1 : wt_M12 β1 := fun j => by
    rw [h1.2 111 (by (try dsimp only); omega), za3 111 j (by omega), k0]
    omega
  obtain ⟨β2, b2, h2, rb2, m2⟩ := wq_md_takesCase n hn β1 rb1 m1
  obtain ⟨t0, c0⟩ : ∃ o : wt_St, o = wt_sa β2 275 ((0 : Int32)).toNatClampNeg (-1 : Int32) := ⟨_, rfl⟩
  obtain ⟨t1, c1⟩ : ∃ o : wt_St, o = wt_sa t0 275 ((1 : Int32)).toNatClampNeg (-1 : Int32) := ⟨_, rfl⟩
  obtain ⟨t2, c2⟩ : ∃ o : wt_St, o = wt_sa t1 275 ((2 : Int32)).toNatClampNeg (-1 : Int32) := ⟨_, rfl⟩
  obtain ⟨t3, c3⟩ : ∃ o : wt_St, o = wt_sa t2 275 ((3 : Int32)).toNatClampNeg (-1 : Int32) := ⟨_, rfl⟩
  have q1 : -1 ≤ ((-1 : Int32)).toInt := by decide
  have q2 : ((-1 : Int32)).toInt ≤ 7 := by decide
  have rt0 := wt_Rn12 rb2 c0 (by decide) (by decide) q1 q2
  have rt1 := wt_Rn12 rt0 c1 (by decide) (by decide) q1 q2
  have rt2 := wt_Rn12 rt1 c2 (by decide) (by decide) q1 q2
  have rt3 := wt_Rn12 rt2 c3 (by decide) (by decide) q1 q2
  have d0 := wt_fr_sa c0
  have d1 := wt_fr_sa c1
  have d2 := wt_fr_sa c2
  have d3 := wt_fr_sa c3
  have tf : ∀ i k, wt_gf t3 i k = wt_gf β2 i k := fun i k => by
    rw [d3.1 i k (fun h => h), d2.1 i k (fun h => h), d1.1 i k (fun h => h), d0.1 i k (fun h => h)]
  have ta : ∀ i j, i ≠ 275 → wt_ga t3 i j = wt_ga β2 i j := fun i j h => by
    rw [d3.2 i h, d2.2 i h, d1.2 i h, d0.2 i h]
  have n0 : ((0 : Int32)).toNatClampNeg = 0 := by decide
  have n1 : ((1 : Int32)).toNatClampNeg = 1 := by decide
  have n2 : ((2 : Int32)).toNatClampNeg = 2 := by decide
  have n3 : ((3 : Int32)).toNatClampNeg = 3 := by decide
  have p5 : ∀ g, g < 4 → (wt_ga t3 275 g).toInt = -1 := fun g hg => by
    have : g = 0 ∨ g = 1 ∨ g = 2 ∨ g = 3 := by omega
    have v3 := wt_v_sa c3
    have v2 := wt_v_sa c2
    have v1 := wt_v_sa c1
    have v0 := wt_v_sa c0
    rw [n3] at v3
    rw [n2] at v2
    rw [n1] at v1
    rw [n0] at v0
    rcases this with rfl | rfl | rfl | rfl
    · rw [wt_w_sa c3 0 (by rw [n3]; decide), wt_w_sa c2 0 (by rw [n2]; decide), wt_w_sa c1 0 (by rw [n1]; decide), v0, wt_lm1]
    · rw [wt_w_sa c3 1 (by rw [n3]; decide), wt_w_sa c2 1 (by rw [n2]; decide), v1, wt_lm1]
    · rw [wt_w_sa c3 2 (by rw [n3]; decide), v2, wt_lm1]
    · rw [v3, wt_lm1]
  have z276 : ∀ g, (wt_ga t3 276 g).toInt = 0 := fun g => by
    rw [ta 276 g (by decide), h2.2 276 (by (try dsimp only); omega), h1.2 276 (by (try dsimp only); omega), za3 276 g (by omega), k0]
  have z41 : (wt_gf t3 108 41).toInt = 0 := by
    rw [tf, h2.1 108 41 (by (try dsimp only); omega), h1.1 108 41 (by (try dsimp only); omega), zf3 108 41 (by omega), k0]
  refine ⟨t3, ⟨α1, α2, α3, α4, α5, α6, β1, β2, a1, fun i hi => ⟨fun q => f1.1 i q (by (try dsimp only); omega), fun q => f1.2 i (by (try dsimp only); omega) q⟩, a2, fun i hi => ⟨fun q => f2.1 i q (by (try dsimp only); omega), fun q => f2.2 i (by (try dsimp only); omega) q⟩, a3, fun i hi => ⟨fun q => f3.1 i q (fun h => h), fun q => f3.2 i (by (try dsimp only); omega) q⟩, a4, fun i hi => ⟨fun q => f4.1 i q (fun h => h), fun q => f4.2 i (by (try dsimp only); omega) q⟩, a5, fun i hi => ⟨fun q => f5.1 i q (fun h => h), fun q => f5.2 i (by (try dsimp only); omega) q⟩, a6, fun i hi => ⟨fun q => f6.1 i q (fun h => h), fun q => f6.2 i (by (try dsimp only); omega) q⟩, ?_, ?_, b2, fun i hi => ⟨fun q => h2.1 i q (by (try dsimp only); omega), fun q => h2.2 i (by (try dsimp only); omega) q⟩, ?_⟩, ⟨⟨rt3, ?_, fun g hg hne => absurd (p5 g hg) hne, fun g hg k k' _ h => ?_, fun i hi => ?_⟩, ?_⟩, fun j _ => ?_⟩
  · rw [← e1, ← e2, ← e3]; exact b1
  · rw [← e1, ← e2, ← e3]
    exact fun i hi => ⟨fun q => h1.1 i q (by (try dsimp only); omega), fun q => h1.2 i (by (try dsimp only); omega) q⟩
  · rw [← c0, ← c1, ← c2]; exact c3
  · exact wt_M_no (wt_M_no (wt_M_no (wt_M_no m2 c0 (by decide)) c1 (by decide)) c2 (by decide)) c3 (by decide)
  · rw [z276] at h
    omega
  · rw [z41] at hi
    omega
  · rw [tf, tf, h2.1 1 2 (by (try dsimp only); omega), h1.1 1 2 (by (try dsimp only); omega), zf3 1 2 (by omega), h2.1 108 1 (by (try dsimp only); omega), h1.1 108 1 (by (try dsimp only); omega), zf3 108 1 (by omega)]
  · rw [ta 2 j (by decide), ta 109 j (by decide), h2.2 2 (by (try dsimp only); omega), h1.2 2 (by (try dsimp only); omega), g3.2 2 (fun h => h), g2.2 2 (fun h => h), g1.2 2 (fun h => h), f6.2 2 (by (try dsimp only); omega), f5.2 2 (by (try dsimp only); omega), f4.2 2 (by (try dsimp only); omega), f3.2 2 (by (try dsimp only); omega), f2.2 2 (by (try dsimp only); omega), f1.2 2 (by (try dsimp only); omega), h2.2 109 (by (try dsimp only); omega), h1.2 109 (by (try dsimp only); omega), za3 109 j (by omega)]
    rfl
