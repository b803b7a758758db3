/-! the rows that a case is read into, before and after -/
set_option maxHeartbeats 4000000 in
theorem wh_ldclear (n : Nat) {σ : wt_St} : wt_H (wp_ld_clear n 12 σ) (fun q => wt_fr (fun i k => i = 12 ∧ k = 7) (fun i => 13 ≤ i ∧ i < 20) σ q ∧ (∀ l, l < 26 → wt_ga q 13 l = 0) ∧ (∀ l, l < 26 → wt_ga q 15 l = 0) ∧ (∀ l, l < 26 → wt_ga q 17 l = 1) ∧ (∀ l, l < 26 → wt_ga q 18 l = -1) ∧ (∀ m, m < 4 → wt_ga q 19 m = 0) ∧ wt_gf q 12 7 = 0) := by
  unfold wp_ld_clear
  refine wt_H_bh (wh_fillRow n (a := 13)) (fun q1 h1 => ?_)
  refine wt_H_bh (wh_fillRow n (a := 14)) (fun q2 h2 => ?_)
  refine wt_H_bh (wh_fillRow n (a := 15)) (fun q3 h3 => ?_)
  refine wt_H_bh (wh_fillRow n (a := 16)) (fun q4 h4 => ?_)
  refine wt_H_bh (wh_fillRow n (a := 17)) (fun q5 h5 => ?_)
  refine wt_H_bh (wh_fillRow n (a := 18)) (fun q6 h6 => ?_)
  refine wt_H_bh (wh_fillRow n (a := 19)) (fun q7 h7 => ?_)
  obtain ⟨q8, ε⟩ : ∃ o : wt_St, o = wt_sf q7 12 7 (0 : Int32) := ⟨_, rfl⟩
  rw [← ε]
  have f8 := wt_fr_sf ε
  have W : ∀ {a : Nat} {s s' : wt_St}, wt_fr (fun _ _ => False) (fun i => i = a) s s' → 13 ≤ a → a < 20 → wt_fr (fun i k => i = 12 ∧ k = 7) (fun i => 13 ≤ i ∧ i < 20) s s' := fun f h1 h2 => wt_frw f (fun i k h => h.elim) (fun i h => by omega)
  have T : ∀ {s s' s'' : wt_St}, wt_fr (fun i k => i = 12 ∧ k = 7) (fun i => 13 ≤ i ∧ i < 20) s s' → wt_fr (fun i k => i = 12 ∧ k = 7) (fun i => 13 ≤ i ∧ i < 20) s' s'' → wt_fr (fun i k => i = 12 ∧ k = 7) (fun i => 13 ≤ i ∧ i < 20) s s'' := fun f g => wt_fr.tr f g (fun i k h => h) (fun i h => h)
  refine wt_H_some ⟨T (T (T (T (T (T (T (W h1.1 (by omega) (by omega)) (W h2.1 (by omega) (by omega))) (W h3.1 (by omega) (by omega))) (W h4.1 (by omega) (by omega))) (W h5.1 (by omega) (by omega))) (W h6.1 (by omega) (by omega))) (W h7.1 (by omega) (by omega))) (wt_frw f8 (fun i k h => h) (fun i h => h.elim)), fun l hl => ?_, fun l hl => ?_, fun l hl => ?_, fun l hl => ?_, fun l hl => ?_, wt_v_sf ε⟩
  · rw [f8.2 13 (fun h => h), h7.1.2 13 (by decide), h6.1.2 13 (by decide), h5.1.2 13 (by decide), h4.1.2 13 (by decide), h3.1.2 13 (by decide), h2.1.2 13 (by decide)]
    exact h1.2 l hl
  · rw [f8.2 15 (fun h => h), h7.1.2 15 (by decide), h6.1.2 15 (by decide), h5.1.2 15 (by decide), h4.1.2 15 (by decide)]
    exact h3.2 l hl
  · rw [f8.2 17 (fun h => h), h7.1.2 17 (by decide), h6.1.2 17 (by decide)]
    exact h5.2 l hl
  · rw [f8.2 18 (fun h => h), h7.1.2 18 (by decide)]
    exact h6.2 l hl
  · rw [f8.2 19 (fun h => h)]
    exact h7.2 l hl
set_option maxHeartbeats 4000000 in
theorem wh_clearsCase (n : Nat) {σ : wt_St} : wt_H (wp_md_clearsCase n σ) (fun q => wt_fr (fun i k => i = 108 ∧ k = 24) (fun i => i = 110 ∨ i = 112 ∨ i = 114 ∨ i = 116 ∨ i = 118) σ q ∧ (∀ l, l < 26 → wt_ga q 110 l = 0 ∧ wt_ga q 112 l = 0 ∧ wt_ga q 114 l = 1 ∧ wt_ga q 116 l = -1) ∧ (∀ m, m < 4 → wt_ga q 118 m = 0) ∧ wt_gf q 108 24 = 0) := by
  have k0 : (0 : Int32).toInt = 0 := by decide
  have k26 : (26 : Int32).toInt = 26 := by decide
  have k4 : (4 : Int32).toInt = 4 := by decide
  unfold wp_md_clearsCase
  refine wt_H_it (fun s : Int32 × wt_St => 0 ≤ s.1.toInt ∧ wt_fr (fun i k => i = 108 ∧ k = 24) (fun i => i = 110 ∨ i = 112 ∨ i = 114 ∨ i = 116 ∨ i = 118) σ s.2 ∧ ∀ l : Nat, (l : Int) < s.1.toInt → wt_ga s.2 110 l = 0 ∧ wt_ga s.2 112 l = 0 ∧ wt_ga s.2 114 l = 1 ∧ wt_ga s.2 116 l = -1) (fun K s I hK => ?_) n _ ⟨by show 0 ≤ ((0 : Int32)).toInt; omega, wt_fr.rf, fun l hl => absurd (show (l : Int) < ((0 : Int32)).toInt from hl) (by omega)⟩
  obtain ⟨i1, f, i2⟩ := I
  unfold wp_md_clearsCase_B2
  refine wt_H_if (fun c => ?_) (fun c => ?_)
  · have c' := wt_cle c
    refine wt_H_it (fun t : Int32 × wt_St => 0 ≤ t.1.toInt ∧ wt_fr (fun _ _ => False) (fun i => i = 118) s.2 t.2 ∧ ∀ m : Nat, (m : Int) < t.1.toInt → wt_ga t.2 118 m = 0) (fun K t J hK => ?_) n _ ⟨by show 0 ≤ ((0 : Int32)).toInt; omega, wt_fr.rf, fun l hl => absurd (show (l : Int) < ((0 : Int32)).toInt from hl) (by omega)⟩
    obtain ⟨j1, g, j2⟩ := J
    unfold wp_md_clearsCase_B44
    refine wt_H_if (fun d => ?_) (fun d => ?_)
    · have d' := wt_cle d
      obtain ⟨s1, ε⟩ : ∃ o : wt_St, o = wt_sf t.2 108 24 (0 : Int32) := ⟨_, rfl⟩
      rw [← ε]
      have f1 := wt_fr_sf ε
      refine wt_H_some ⟨wt_fr.tr (wt_fr.tr f g (fun i k h => h.elim) (fun i h => by (try dsimp only at h); omega)) f1 (fun i k h => h) (fun i h => h.elim), fun l hl => ?_, fun m hm => ?_, wt_v_sf ε⟩
      · rw [f1.2 110 (fun h => h), f1.2 112 (fun h => h), f1.2 114 (fun h => h), f1.2 116 (fun h => h), g.2 110 (by decide), g.2 112 (by decide), g.2 114 (by decide), g.2 116 (by decide)]
        exact i2 l (by omega)
      · rw [f1.2 118 (fun h => h)]
        exact j2 m (by omega)
    · have d' := wt_ncle d
      have ei := wt_i1 (c := t.1) (by omega)
      have et := wt_tnI j1
      refine wt_H_gd (fun _ => ?_)
      obtain ⟨s1, ε⟩ : ∃ o : wt_St, o = wt_sa t.2 118 (Int32.toNatClampNeg t.1) (0 : Int32) := ⟨_, rfl⟩
      rw [← ε]
      refine hK _ ⟨by show 0 ≤ (t.1 + (1 : Int32)).toInt; omega, wt_fr.tr g (wt_fr_sa ε) (fun i k h => h) (fun i h => h), fun m hm => ?_⟩
      have hm' : (m : Int) < (t.1 + (1 : Int32)).toInt := hm
      show wt_ga s1 118 m = 0
      by_cases hc : m = Int32.toNatClampNeg t.1
      · rw [hc, wt_v_sa ε]
      · rw [wt_w_sa ε m hc]; exact j2 m (by omega)
  · have c' := wt_ncle c
    have ei := wt_i1 (c := s.1) (by omega)
    have es := wt_tnI i1
    refine wt_H_gd (fun _ => ?_)
    refine wt_H_gd (fun _ => ?_)
    refine wt_H_gd (fun _ => ?_)
    refine wt_H_gd (fun _ => ?_)
    obtain ⟨s1, ε1⟩ : ∃ o : wt_St, o = wt_sa s.2 110 (Int32.toNatClampNeg s.1) (0 : Int32) := ⟨_, rfl⟩
    rw [← ε1]
    obtain ⟨s2, ε2⟩ : ∃ o : wt_St, o = wt_sa s1 112 (Int32.toNatClampNeg s.1) (0 : Int32) := ⟨_, rfl⟩
    rw [← ε2]
    obtain ⟨s3, ε3⟩ : ∃ o : wt_St, o = wt_sa s2 114 (Int32.toNatClampNeg s.1) (1 : Int32) := ⟨_, rfl⟩
    rw [← ε3]
    obtain ⟨s4, ε4⟩ : ∃ o : wt_St, o = wt_sa s3 116 (Int32.toNatClampNeg s.1) (-1 : Int32) := ⟨_, rfl⟩
    rw [← ε4]
    have f1 := wt_fr_sa ε1
    have f2 := wt_fr_sa ε2
    have f3 := wt_fr_sa ε3
    have f4 := wt_fr_sa ε4
    refine hK _ ⟨by show 0 ≤ (s.1 + (1 : Int32)).toInt; omega, wt_fr.tr (wt_fr.tr (wt_fr.tr (wt_fr.tr f f1 (fun i k h => h.elim) (fun i h => by (try dsimp only at h); omega)) f2 (fun i k h => h.elim) (fun i h => by (try dsimp only at h); omega)) f3 (fun i k h => h.elim) (fun i h => by (try dsimp only at h); omega)) f4 (fun i k h => h.elim) (fun i h => by (try dsimp only at h); omega), fun l hl => ?_⟩
    have hl' : (l : Int) < (s.1 + (1 : Int32)).toInt := hl
    show wt_ga s4 110 l = 0 ∧ wt_ga s4 112 l = 0 ∧ wt_ga s4 114 l = 1 ∧ wt_ga s4 116 l = -1
    rw [f4.2 110 (by decide), f4.2 112 (by decide), f4.2 114 (by decide), f3.2 110 (by decide), f3.2 112 (by decide), f2.2 110 (by decide)]
    by_cases hc : l = Int32.toNatClampNeg s.1
    · rw [hc]
      exact ⟨wt_v_sa ε1, wt_v_sa ε2, wt_v_sa ε3, wt_v_sa ε4⟩
    · rw [wt_w_sa ε1 l hc, wt_w_sa ε2 l hc, wt_w_sa ε3 l hc, wt_w_sa ε4 l hc, f1.2 112 (by decide), f2.2 114 (by decide), f1.2 114 (by decide), f3.2 116 (by decide), f2.2 116 (by decide), f1.2 116 (by decide)]
      exact i2 l (by omega)
set_option maxHeartbeats 8000000 in
theorem wh_takesCase (n : Nat) {σ : wt_St} : wt_H (wp_md_takesCase n σ) (fun q => wt_fr (fun i k => i = 108 ∧ k = 25) (fun i => i = 111 ∨ i = 113 ∨ i = 115 ∨ i = 117 ∨ i = 119 ∨ i = 121 ∨ i = 123 ∨ i = 124) σ q ∧ (∀ l, l < 26 → wt_ga q 111 l = wt_ga σ 110 l ∧ wt_ga q 113 l = wt_ga σ 112 l ∧ wt_ga q 115 l = wt_ga σ 114 l ∧ wt_ga q 117 l = wt_ga σ 116 l) ∧ (∀ m, m < 4 → wt_ga q 119 m = wt_ga σ 118 m) ∧ (∀ k, k < 338 → wt_ga q 121 k = wt_ga σ 120 k ∧ wt_ga q 123 k = wt_ga σ 122 k ∧ wt_ga q 124 k = -1) ∧ wt_gf q 108 25 = wt_gf σ 108 24) := by
  have k0 : (0 : Int32).toInt = 0 := by decide
  have k26 : (26 : Int32).toInt = 26 := by decide
  have k4 : (4 : Int32).toInt = 4 := by decide
  have k338 : (338 : Int32).toInt = 338 := by decide
  unfold wp_md_takesCase
  refine wt_H_it (fun s : Int32 × wt_St => 0 ≤ s.1.toInt ∧ wt_fr (fun _ _ => False) (fun i => i = 111 ∨ i = 113 ∨ i = 115 ∨ i = 117) σ s.2 ∧ ∀ l : Nat, (l : Int) < s.1.toInt → wt_ga s.2 111 l = wt_ga σ 110 l ∧ wt_ga s.2 113 l = wt_ga σ 112 l ∧ wt_ga s.2 115 l = wt_ga σ 114 l ∧ wt_ga s.2 117 l = wt_ga σ 116 l) (fun K s I hK => ?_) n _ ⟨by show 0 ≤ ((0 : Int32)).toInt; omega, wt_fr.rf, fun l hl => absurd (show (l : Int) < ((0 : Int32)).toInt from hl) (by omega)⟩
  obtain ⟨i1, f, i2⟩ := I
  unfold wp_md_takesCase_B2
  refine wt_H_if (fun c => ?_) (fun c => ?_)
  · have c' := wt_cle c
    refine wt_H_it (fun t : Int32 × wt_St => 0 ≤ t.1.toInt ∧ wt_fr (fun _ _ => False) (fun i => i = 119) s.2 t.2 ∧ ∀ m : Nat, (m : Int) < t.1.toInt → wt_ga t.2 119 m = wt_ga s.2 118 m) (fun K t J hK => ?_) n _ ⟨by show 0 ≤ ((0 : Int32)).toInt; omega, wt_fr.rf, fun l hl => absurd (show (l : Int) < ((0 : Int32)).toInt from hl) (by omega)⟩
    obtain ⟨j1, g, j2⟩ := J
    unfold wp_md_takesCase_B64
    refine wt_H_if (fun d => ?_) (fun d => ?_)
    · have d' := wt_cle d
      refine wt_H_it (fun u : Int32 × wt_St => 0 ≤ u.1.toInt ∧ wt_fr (fun _ _ => False) (fun i => i = 121 ∨ i = 123 ∨ i = 124) t.2 u.2 ∧ ∀ k : Nat, (k : Int) < u.1.toInt → wt_ga u.2 121 k = wt_ga t.2 120 k ∧ wt_ga u.2 123 k = wt_ga t.2 122 k ∧ wt_ga u.2 124 k = -1) (fun K u J hK => ?_) n _ ⟨by show 0 ≤ ((0 : Int32)).toInt; omega, wt_fr.rf, fun l hl => absurd (show (l : Int) < ((0 : Int32)).toInt from hl) (by omega)⟩
      obtain ⟨u1, p, u2⟩ := J
      unfold wp_md_takesCase_B89
      refine wt_H_if (fun d => ?_) (fun d => ?_)
      · have d' := wt_cle d
        obtain ⟨s1, ε⟩ : ∃ o : wt_St, o = wt_sf u.2 108 25 (wt_gf u.2 108 24) := ⟨_, rfl⟩
        rw [← ε]
        have f1 := wt_fr_sf ε
        refine wt_H_some ⟨wt_fr.tr (wt_fr.tr (wt_fr.tr (wt_frw f (fun i k h => h.elim) (fun i h => by (try dsimp only at h); omega)) g (fun i k h => h.elim) (fun i h => by (try dsimp only at h); omega)) p (fun i k h => h.elim) (fun i h => by (try dsimp only at h); omega)) f1 (fun i k h => h) (fun i h => h.elim), fun l hl => ?_, fun m hm => ?_, fun k hk => ?_, ?_⟩
        · rw [f1.2 111 (fun h => h), f1.2 113 (fun h => h), f1.2 115 (fun h => h), f1.2 117 (fun h => h), p.2 111 (by decide), p.2 113 (by decide), p.2 115 (by decide), p.2 117 (by decide), g.2 111 (by decide), g.2 113 (by decide), g.2 115 (by decide), g.2 117 (by decide)]
          exact i2 l (by omega)
        · rw [f1.2 119 (fun h => h), p.2 119 (by decide), j2 m (by omega), f.2 118 (by decide)]
        · rw [f1.2 121 (fun h => h), f1.2 123 (fun h => h), f1.2 124 (fun h => h), (u2 k (by omega)).1, (u2 k (by omega)).2.1, (u2 k (by omega)).2.2, g.2 120 (by decide), g.2 122 (by decide), f.2 120 (by decide), f.2 122 (by decide)]
          exact ⟨rfl, rfl, rfl⟩
        · rw [wt_v_sf ε, p.1 108 24 (fun h => h), g.1 108 24 (fun h => h), f.1 108 24 (fun h => h)]
      · have d' := wt_ncle d
        have ei := wt_i1 (c := u.1) (by omega)
        have et := wt_tnI u1
        refine wt_H_gd (fun _ => ?_)
        refine wt_H_gd (fun _ => ?_)
        refine wt_H_gd (fun _ => ?_)
        refine wt_H_gd (fun _ => ?_)
        refine wt_H_gd (fun _ => ?_)
        obtain ⟨s1, ε1⟩ : ∃ o : wt_St, o = wt_sa u.2 121 (Int32.toNatClampNeg u.1) (wt_ga u.2 120 (Int32.toNatClampNeg u.1)) := ⟨_, rfl⟩
        rw [← ε1]
        obtain ⟨s2, ε2⟩ : ∃ o : wt_St, o = wt_sa s1 123 (Int32.toNatClampNeg u.1) (wt_ga s1 122 (Int32.toNatClampNeg u.1)) := ⟨_, rfl⟩
        rw [← ε2]
        obtain ⟨s3, ε3⟩ : ∃ o : wt_St, o = wt_sa s2 124 (Int32.toNatClampNeg u.1) (-1 : Int32) := ⟨_, rfl⟩
        rw [← ε3]
        have f1 := wt_fr_sa ε1
        have f2 := wt_fr_sa ε2
        have f3 := wt_fr_sa ε3
        refine hK _ ⟨by show 0 ≤ (u.1 + (1 : Int32)).toInt; omega, wt_fr.tr (wt_fr.tr (wt_fr.tr p f1 (fun i k h => h) (fun i h => by (try dsimp only at h); omega)) f2 (fun i k h => h) (fun i h => by (try dsimp only at h); omega)) f3 (fun i k h => h) (fun i h => by (try dsimp only at h); omega), fun k hk => ?_⟩
        have hk' : (k : Int) < (u.1 + (1 : Int32)).toInt := hk
        show wt_ga s3 121 k = wt_ga t.2 120 k ∧ wt_ga s3 123 k = wt_ga t.2 122 k ∧ wt_ga s3 124 k = -1
        rw [f3.2 121 (by decide), f3.2 123 (by decide), f2.2 121 (by decide)]
        by_cases hc : k = Int32.toNatClampNeg u.1
        · rw [hc, wt_v_sa ε1, wt_v_sa ε2, wt_v_sa ε3, f1.2 122 (by decide), p.2 120 (by decide), p.2 122 (by decide)]
          exact ⟨rfl, rfl, rfl⟩
        · rw [wt_w_sa ε1 k hc, wt_w_sa ε2 k hc, wt_w_sa ε3 k hc, f1.2 123 (by decide), f2.2 124 (by decide), f1.2 124 (by decide)]
          exact u2 k (by omega)
    · have d' := wt_ncle d
      have ei := wt_i1 (c := t.1) (by omega)
      have et := wt_tnI j1
      refine wt_H_gd (fun _ => ?_)
      refine wt_H_gd (fun _ => ?_)
      obtain ⟨s1, ε⟩ : ∃ o : wt_St, o = wt_sa t.2 119 (Int32.toNatClampNeg t.1) (wt_ga t.2 118 (Int32.toNatClampNeg t.1)) := ⟨_, rfl⟩
      rw [← ε]
      refine hK _ ⟨by show 0 ≤ (t.1 + (1 : Int32)).toInt; omega, wt_fr.tr g (wt_fr_sa ε) (fun i k h => h) (fun i h => h), fun m hm => ?_⟩
      have hm' : (m : Int) < (t.1 + (1 : Int32)).toInt := hm
      show wt_ga s1 119 m = wt_ga s.2 118 m
      by_cases hc : m = Int32.toNatClampNeg t.1
      · rw [hc, wt_v_sa ε, g.2 118 (by decide)]
      · rw [wt_w_sa ε m hc]; exact j2 m (by omega)
  · have c' := wt_ncle c
    have ei := wt_i1 (c := s.1) (by omega)
    have es := wt_tnI i1
    refine wt_H_gd (fun _ => ?_)
    refine wt_H_gd (fun _ => ?_)
    refine wt_H_gd (fun _ => ?_)
    refine wt_H_gd (fun _ => ?_)
    refine wt_H_gd (fun _ => ?_)
    refine wt_H_gd (fun _ => ?_)
    refine wt_H_gd (fun _ => ?_)
    refine wt_H_gd (fun _ => ?_)
    obtain ⟨s1, ε1⟩ : ∃ o : wt_St, o = wt_sa s.2 111 (Int32.toNatClampNeg s.1) (wt_ga s.2 110 (Int32.toNatClampNeg s.1)) := ⟨_, rfl⟩
    rw [← ε1]
    obtain ⟨s2, ε2⟩ : ∃ o : wt_St, o = wt_sa s1 113 (Int32.toNatClampNeg s.1) (wt_ga s1 112 (Int32.toNatClampNeg s.1)) := ⟨_, rfl⟩
    rw [← ε2]
    obtain ⟨s3, ε3⟩ : ∃ o : wt_St, o = wt_sa s2 115 (Int32.toNatClampNeg s.1) (wt_ga s2 114 (Int32.toNatClampNeg s.1)) := ⟨_, rfl⟩
    rw [← ε3]
    obtain ⟨s4, ε4⟩ : ∃ o : wt_St, o = wt_sa s3 117 (Int32.toNatClampNeg s.1) (wt_ga s3 116 (Int32.toNatClampNeg s.1)) := ⟨_, rfl⟩
    rw [← ε4]
    have f1 := wt_fr_sa ε1
    have f2 := wt_fr_sa ε2
    have f3 := wt_fr_sa ε3
    have f4 := wt_fr_sa ε4
    refine hK _ ⟨by show 0 ≤ (s.1 + (1 : Int32)).toInt; omega, wt_fr.tr (wt_fr.tr (wt_fr.tr (wt_fr.tr f f1 (fun i k h => h) (fun i h => by (try dsimp only at h); omega)) f2 (fun i k h => h) (fun i h => by (try dsimp only at h); omega)) f3 (fun i k h => h) (fun i h => by (try dsimp only at h); omega)) f4 (fun i k h => h) (fun i h => by (try dsimp only at h); omega), fun l hl => ?_⟩
    have hl' : (l : Int) < (s.1 + (1 : Int32)).toInt := hl
    show wt_ga s4 111 l = wt_ga σ 110 l ∧ wt_ga s4 113 l = wt_ga σ 112 l ∧ wt_ga s4 115 l = wt_ga σ 114 l ∧ wt_ga s4 117 l = wt_ga σ 116 l
    rw [f4.2 111 (by decide), f4.2 113 (by decide), f4.2 115 (by decide), f3.2 111 (by decide), f3.2 113 (by decide), f2.2 111 (by decide)]
    by_cases hc : l = Int32.toNatClampNeg s.1
    · rw [hc, wt_v_sa ε1, wt_v_sa ε2, wt_v_sa ε3, wt_v_sa ε4, f1.2 112 (by decide), f2.2 114 (by decide), f1.2 114 (by decide), f3.2 116 (by decide), f2.2 116 (by decide), f1.2 116 (by decide), f.2 110 (by decide), f.2 112 (by decide), f.2 114 (by decide), f.2 116 (by decide)]
      exact ⟨rfl, rfl, rfl, rfl⟩
    · rw [wt_w_sa ε1 l hc, wt_w_sa ε2 l hc, wt_w_sa ε3 l hc, wt_w_sa ε4 l hc, f1.2 113 (by decide), f2.2 115 (by decide), f1.2 115 (by decide), f3.2 117 (by decide), f2.2 117 (by decide), f1.2 117 (by decide)]
      exact i2 l (by omega)
