-- 71j.kase2.lean.txt
section WTQ0
/-! the rows that a case is read into, before and after -/
set_option maxHeartbeats 4000000 in
theorem wh_ldclear (n : Nat) {σ : wt_St} : wt_H (wp_ld_clear n 12 σ) (fun q => wt_fr (fun i k => i = 12 ∧ k = 7) (fun i => 13 ≤ i ∧ i < 20) σ q ∧ (∀ l, l < 26 → wt_ga q 13 l = 0) ∧ (∀ l, l < 26 → wt_ga q 15 l = 0) ∧ (∀ l, l < 26 → wt_ga q 17 l = 1) ∧ (∀ l, l < 26 → wt_ga q 18 l = -1) ∧ (∀ m, m < 4 → wt_ga q 19 m = 0) ∧ wt_gf q 12 7 = 0) := by
  unfold wp_ld_clear
  refine wt_H_bh (wh_fillRow n (a := 13)) (fun q1 h1 => ?_)
  refine wt_H_bh (wh_fillRow n (a := 14)) (fun q2 h2 => ?_)
  refine wt_H_bh (wh_fillRow n (a := 15)) (fun q3 h3 => ?_)
  refine wt_H_bh (wh_fillRow n (a := 16)) (fun q4 h4 => ?_)
  refine wt_H_bh (wh_fillRow n (a := 17)) (fun q5 h5 => ?_)
  refine wt_H_bh (wh_fillRow n (a := 18)) (fun q6 h6 => ?_)
  refine wt_H_bh (wh_fillRow n (a := 19)) (fun q7 h7 => ?_)
  obtain ⟨q8, ε⟩ : ∃ o : wt_St, o = wt_sf q7 12 7 (0 : Int32) := ⟨_, rfl⟩
  rw [← ε]
  have f8 := wt_fr_sf ε
  have W : ∀ {a : Nat} {s s' : wt_St}, wt_fr (fun _ _ => False) (fun i => i = a) s s' → 13 ≤ a → a < 20 → wt_fr (fun i k => i = 12 ∧ k = 7) (fun i => 13 ≤ i ∧ i < 20) s s' := fun f h1 h2 => wt_frw f (fun i k h => h.elim) (fun i h => by omega)
  have T : ∀ {s s' s'' : wt_St}, wt_fr (fun i k => i = 12 ∧ k = 7) (fun i => 13 ≤ i ∧ i < 20) s s' → wt_fr (fun i k => i = 12 ∧ k = 7) (fun i => 13 ≤ i ∧ i < 20) s' s'' → wt_fr (fun i k => i = 12 ∧ k = 7) (fun i => 13 ≤ i ∧ i < 20) s s'' := fun f g => wt_fr.tr f g (fun i k h => h) (fun i h => h)
  refine wt_H_some ⟨T (T (T (T (T (T (T (W h1.1 (by omega) (by omega)) (W h2.1 (by omega) (by omega))) (W h3.1 (by omega) (by omega))) (W h4.1 (by omega) (by omega))) (W h5.1 (by omega) (by omega))) (W h6.1 (by omega) (by omega))) (W h7.1 (by omega) (by omega))) (wt_frw f8 (fun i k h => h) (fun i h => h.elim)), fun l hl => ?_, fun l hl => ?_, fun l hl => ?_, fun l hl => ?_, fun l hl => ?_, wt_v_sf ε⟩
  · rw [f8.2 13 (fun h => h), h7.1.2 13 (by decide), h6.1.2 13 (by decide), h5.1.2 13 (by decide), h4.1.2 13 (by decide), h3.1.2 13 (by decide), h2.1.2 13 (by decide)]
    exact h1.2 l hl
  · rw [f8.2 15 (fun h => h), h7.1.2 15 (by decide), h6.1.2 15 (by decide), h5.1.2 15 (by decide), h4.1.2 15 (by decide)]
    exact h3.2 l hl
  · rw [f8.2 17 (fun h => h), h7.1.2 17 (by decide), h6.1.2 17 (by decide)]
    exact h5.2 l hl
  · rw [f8.2 18 (fun h => h), h7.1.2 18 (by decide)]
    exact h6.2 l hl
  · rw [f8.2 19 (fun h => h)]
    exact h7.2 l hl
set_option maxHeartbeats 4000000 in
theorem wh_clearsCase (n : Nat) {σ : wt_St} : wt_H (wp_md_clearsCase n σ) (fun q => wt_fr (fun i k => i = 108 ∧ k = 24) (fun i => i = 110 ∨ i = 112 ∨ i = 114 ∨ i = 116 ∨ i = 118) σ q ∧ (∀ l, l < 26 → wt_ga q 110 l = 0 ∧ wt_ga q 112 l = 0 ∧ wt_ga q 114 l = 1 ∧ wt_ga q 116 l = -1) ∧ (∀ m, m < 4 → wt_ga q 118 m = 0) ∧ wt_gf q 108 24 = 0) := by
  have k0 : (0 : Int32).toInt = 0 := by decide
  have k26 : (26 : Int32).toInt = 26 := by decide
  have k4 : (4 : Int32).toInt = 4 := by decide
  unfold wp_md_clearsCase
  refine wt_H_it (fun s : Int32 × wt_St => 0 ≤ s.1.toInt ∧ wt_fr (fun i k => i = 108 ∧ k = 24) (fun i => i = 110 ∨ i = 112 ∨ i = 114 ∨ i = 116 ∨ i = 118) σ s.2 ∧ ∀ l : Nat, (l : Int) < s.1.toInt → wt_ga s.2 110 l = 0 ∧ wt_ga s.2 112 l = 0 ∧ wt_ga s.2 114 l = 1 ∧ wt_ga s.2 116 l = -1) (fun K s I hK => ?_) n _ ⟨by show 0 ≤ ((0 : Int32)).toInt; omega, wt_fr.rf, fun l hl => absurd (show (l : Int) < ((0 : Int32)).toInt from hl) (by omega)⟩
  obtain ⟨i1, f, i2⟩ := I
  unfold wp_md_clearsCase_B2
  refine wt_H_if (fun c => ?_) (fun c => ?_)
  · have c' := wt_cle c
    refine wt_H_it (fun t : Int32 × wt_St => 0 ≤ t.1.toInt ∧ wt_fr (fun _ _ => False) (fun i => i = 118) s.2 t.2 ∧ ∀ m : Nat, (m : Int) < t.1.toInt → wt_ga t.2 118 m = 0) (fun K t J hK => ?_) n _ ⟨by show 0 ≤ ((0 : Int32)).toInt; omega, wt_fr.rf, fun l hl => absurd (show (l : Int) < ((0 : Int32)).toInt from hl) (by omega)⟩
    obtain ⟨j1, g, j2⟩ := J
    unfold wp_md_clearsCase_B44
    refine wt_H_if (fun d => ?_) (fun d => ?_)
    · have d' := wt_cle d
      obtain ⟨s1, ε⟩ : ∃ o : wt_St, o = wt_sf t.2 108 24 (0 : Int32) := ⟨_, rfl⟩
      rw [← ε]
      have f1 := wt_fr_sf ε
      refine wt_H_some ⟨wt_fr.tr (wt_fr.tr f g (fun i k h => h.elim) (fun i h => by (try dsimp only at h); omega)) f1 (fun i k h => h) (fun i h => h.elim), fun l hl => ?_, fun m hm => ?_, wt_v_sf ε⟩
      · rw [f1.2 110 (fun h => h), f1.2 112 (fun h => h), f1.2 114 (fun h => h), f1.2 116 (fun h => h), g.2 110 (by decide), g.2 112 (by decide), g.2 114 (by decide), g.2 116 (by decide)]
        exact i2 l (by omega)
      · rw [f1.2 118 (fun h => h)]
        exact j2 m (by omega)
    · have d' := wt_ncle d
      have ei := wt_i1 (c := t.1) (by omega)
      have et := wt_tnI j1
      refine wt_H_gd (fun _ => ?_)
      obtain ⟨s1, ε⟩ : ∃ o : wt_St, o = wt_sa t.2 118 (Int32.toNatClampNeg t.1) (0 : Int32) := ⟨_, rfl⟩
      rw [← ε]
      refine hK _ ⟨by show 0 ≤ (t.1 + (1 : Int32)).toInt; omega, wt_fr.tr g (wt_fr_sa ε) (fun i k h => h) (fun i h => h), fun m hm => ?_⟩
      have hm' : (m : Int) < (t.1 + (1 : Int32)).toInt := hm
      show wt_ga s1 118 m = 0
      by_cases hc : m = Int32.toNatClampNeg t.1
      · rw [hc, wt_v_sa ε]
      · rw [wt_w_sa ε m hc]; exact j2 m (by omega)
  · have c' := wt_ncle c
    have ei := wt_i1 (c := s.1) (by omega)
    have es := wt_tnI i1
    refine wt_H_gd (fun _ => ?_)
    refine wt_H_gd (fun _ => ?_)
    refine wt_H_gd (fun _ => ?_)
    refine wt_H_gd (fun _ => ?_)
    obtain ⟨s1, ε1⟩ : ∃ o : wt_St, o = wt_sa s.2 110 (Int32.toNatClampNeg s.1) (0 : Int32) := ⟨_, rfl⟩
    rw [← ε1]
    obtain ⟨s2, ε2⟩ : ∃ o : wt_St, o = wt_sa s1 112 (Int32.toNatClampNeg s.1) (0 : Int32) := ⟨_, rfl⟩
    rw [← ε2]
    obtain ⟨s3, ε3⟩ : ∃ o : wt_St, o = wt_sa s2 114 (Int32.toNatClampNeg s.1) (1 : Int32) := ⟨_, rfl⟩
    rw [← ε3]
    obtain ⟨s4, ε4⟩ : ∃ o : wt_St, o = wt_sa s3 116 (Int32.toNatClampNeg s.1) (-1 : Int32) := ⟨_, rfl⟩
    rw [← ε4]
    have f1 := wt_fr_sa ε1
    have f2 := wt_fr_sa ε2
    have f3 := wt_fr_sa ε3
    have f4 := wt_fr_sa ε4
    refine hK _ ⟨by show 0 ≤ (s.1 + (1 : Int32)).toInt; omega, wt_fr.tr (wt_fr.tr (wt_fr.tr (wt_fr.tr f f1 (fun i k h => h.elim) (fun i h => by (try dsimp only at h); omega)) f2 (fun i k h => h.elim) (fun i h => by (try dsimp only at h); omega)) f3 (fun i k h => h.elim) (fun i h => by (try dsimp only at h); omega)) f4 (fun i k h => h.elim) (fun i h => by (try dsimp only at h); omega), fun l hl => ?_⟩
    have hl' : (l : Int) < (s.1 + (1 : Int32)).toInt := hl
    show wt_ga s4 110 l = 0 ∧ wt_ga s4 112 l = 0 ∧ wt_ga s4 114 l = 1 ∧ wt_ga s4 116 l = -1
    rw [f4.2 110 (by decide), f4.2 112 (by decide), f4.2 114 (by decide), f3.2 110 (by decide), f3.2 112 (by decide), f2.2 110 (by decide)]
    by_cases hc : l = Int32.toNatClampNeg s.1
    · rw [hc]
      exact ⟨wt_v_sa ε1, wt_v_sa ε2, wt_v_sa ε3, wt_v_sa ε4⟩
    · rw [wt_w_sa ε1 l hc, wt_w_sa ε2 l hc, wt_w_sa ε3 l hc, wt_w_sa ε4 l hc, f1.2 112 (by decide), f2.2 114 (by decide), f1.2 114 (by decide), f3.2 116 (by decide), f2.2 116 (by decide), f1.2 116 (by decide)]
      exact i2 l (by omega)
set_option maxHeartbeats 8000000 in
theorem wh_takesCase (n : Nat) {σ : wt_St} : wt_H (wp_md_takesCase n σ) (fun q => wt_fr (fun i k => i = 108 ∧ k = 25) (fun i => i = 111 ∨ i = 113 ∨ i = 115 ∨ i = 117 ∨ i = 119 ∨ i = 121 ∨ i = 123 ∨ i = 124) σ q ∧ (∀ l, l < 26 → wt_ga q 111 l = wt_ga σ 110 l ∧ wt_ga q 113 l = wt_ga σ 112 l ∧ wt_ga q 115 l = wt_ga σ 114 l ∧ wt_ga q 117 l = wt_ga σ 116 l) ∧ (∀ m, m < 4 → wt_ga q 119 m = wt_ga σ 118 m) ∧ (∀ k, k < 338 → wt_ga q 121 k = wt_ga σ 120 k ∧ wt_ga q 123 k = wt_ga σ 122 k ∧ wt_ga q 124 k = -1) ∧ wt_gf q 108 25 = wt_gf σ 108 24) := by
  have k0 : (0 : Int32).toInt = 0 := by decide
  have k26 : (26 : Int32).toInt = 26 := by decide
  have k4 : (4 : Int32).toInt = 4 := by decide
  have k338 : (338 : Int32).toInt = 338 := by decide
  unfold wp_md_takesCase
  refine wt_H_it (fun s : Int32 × wt_St => 0 ≤ s.1.toInt ∧ wt_fr (fun _ _ => False) (fun i => i = 111 ∨ i = 113 ∨ i = 115 ∨ i = 117) σ s.2 ∧ ∀ l : Nat, (l : Int) < s.1.toInt → wt_ga s.2 111 l = wt_ga σ 110 l ∧ wt_ga s.2 113 l = wt_ga σ 112 l ∧ wt_ga s.2 115 l = wt_ga σ 114 l ∧ wt_ga s.2 117 l = wt_ga σ 116 l) (fun K s I hK => ?_) n _ ⟨by show 0 ≤ ((0 : Int32)).toInt; omega, wt_fr.rf, fun l hl => absurd (show (l : Int) < ((0 : Int32)).toInt from hl) (by omega)⟩
  obtain ⟨i1, f, i2⟩ := I
  unfold wp_md_takesCase_B2
  refine wt_H_if (fun c => ?_) (fun c => ?_)
  · have c' := wt_cle c
    refine wt_H_it (fun t : Int32 × wt_St => 0 ≤ t.1.toInt ∧ wt_fr (fun _ _ => False) (fun i => i = 119) s.2 t.2 ∧ ∀ m : Nat, (m : Int) < t.1.toInt → wt_ga t.2 119 m = wt_ga s.2 118 m) (fun K t J hK => ?_) n _ ⟨by show 0 ≤ ((0 : Int32)).toInt; omega, wt_fr.rf, fun l hl => absurd (show (l : Int) < ((0 : Int32)).toInt from hl) (by omega)⟩
    obtain ⟨j1, g, j2⟩ := J
    unfold wp_md_takesCase_B64
    refine wt_H_if (fun d => ?_) (fun d => ?_)
    · have d' := wt_cle d
      refine wt_H_it (fun u : Int32 × wt_St => 0 ≤ u.1.toInt ∧ wt_fr (fun _ _ => False) (fun i => i = 121 ∨ i = 123 ∨ i = 124) t.2 u.2 ∧ ∀ k : Nat, (k : Int) < u.1.toInt → wt_ga u.2 121 k = wt_ga t.2 120 k ∧ wt_ga u.2 123 k = wt_ga t.2 122 k ∧ wt_ga u.2 124 k = -1) (fun K u J hK => ?_) n _ ⟨by show 0 ≤ ((0 : Int32)).toInt; omega, wt_fr.rf, fun l hl => absurd (show (l : Int) < ((0 : Int32)).toInt from hl) (by omega)⟩
      obtain ⟨u1, p, u2⟩ := J
      unfold wp_md_takesCase_B89
      refine wt_H_if (fun d => ?_) (fun d => ?_)
      · have d' := wt_cle d
        obtain ⟨s1, ε⟩ : ∃ o : wt_St, o = wt_sf u.2 108 25 (wt_gf u.2 108 24) := ⟨_, rfl⟩
        rw [← ε]
        have f1 := wt_fr_sf ε
        refine wt_H_some ⟨wt_fr.tr (wt_fr.tr (wt_fr.tr (wt_frw f (fun i k h => h.elim) (fun i h => by (try dsimp only at h); omega)) g (fun i k h => h.elim) (fun i h => by (try dsimp only at h); omega)) p (fun i k h => h.elim) (fun i h => by (try dsimp only at h); omega)) f1 (fun i k h => h) (fun i h => h.elim), fun l hl => ?_, fun m hm => ?_, fun k hk => ?_, ?_⟩
        · rw [f1.2 111 (fun h => h), f1.2 113 (fun h => h), f1.2 115 (fun h => h), f1.2 117 (fun h => h), p.2 111 (by decide), p.2 113 (by decide), p.2 115 (by decide), p.2 117 (by decide), g.2 111 (by decide), g.2 113 (by decide), g.2 115 (by decide), g.2 117 (by decide)]
          exact i2 l (by omega)
        · rw [f1.2 119 (fun h => h), p.2 119 (by decide), j2 m (by omega), f.2 118 (by decide)]
        · rw [f1.2 121 (fun h => h), f1.2 123 (fun h => h), f1.2 124 (fun h => h), (u2 k (by omega)).1, (u2 k (by omega)).2.1, (u2 k (by omega)).2.2, g.2 120 (by decide), g.2 122 (by decide), f.2 120 (by decide), f.2 122 (by decide)]
          exact ⟨rfl, rfl, rfl⟩
        · rw [wt_v_sf ε, p.1 108 24 (fun h => h), g.1 108 24 (fun h => h), f.1 108 24 (fun h => h)]
      · have d' := wt_ncle d
        have ei := wt_i1 (c := u.1) (by omega)
        have et := wt_tnI u1
        refine wt_H_gd (fun _ => ?_)
        refine wt_H_gd (fun _ => ?_)
        refine wt_H_gd (fun _ => ?_)
        refine wt_H_gd (fun _ => ?_)
        refine wt_H_gd (fun _ => ?_)
        obtain ⟨s1, ε1⟩ : ∃ o : wt_St, o = wt_sa u.2 121 (Int32.toNatClampNeg u.1) (wt_ga u.2 120 (Int32.toNatClampNeg u.1)) := ⟨_, rfl⟩
        rw [← ε1]
        obtain ⟨s2, ε2⟩ : ∃ o : wt_St, o = wt_sa s1 123 (Int32.toNatClampNeg u.1) (wt_ga s1 122 (Int32.toNatClampNeg u.1)) := ⟨_, rfl⟩
        rw [← ε2]
        obtain ⟨s3, ε3⟩ : ∃ o : wt_St, o = wt_sa s2 124 (Int32.toNatClampNeg u.1) (-1 : Int32) := ⟨_, rfl⟩
        rw [← ε3]
        have f1 := wt_fr_sa ε1
        have f2 := wt_fr_sa ε2
        have f3 := wt_fr_sa ε3
        refine hK _ ⟨by show 0 ≤ (u.1 + (1 : Int32)).toInt; omega, wt_fr.tr (wt_fr.tr (wt_fr.tr p f1 (fun i k h => h) (fun i h => by (try dsimp only at h); omega)) f2 (fun i k h => h) (fun i h => by (try dsimp only at h); omega)) f3 (fun i k h => h) (fun i h => by (try dsimp only at h); omega), fun k hk => ?_⟩
        have hk' : (k : Int) < (u.1 + (1 : Int32)).toInt := hk
        show wt_ga s3 121 k = wt_ga t.2 120 k ∧ wt_ga s3 123 k = wt_ga t.2 122 k ∧ wt_ga s3 124 k = -1
        rw [f3.2 121 (by decide), f3.2 123 (by decide), f2.2 121 (by decide)]
        by_cases hc : k = Int32.toNatClampNeg u.1
        · rw [hc, wt_v_sa ε1, wt_v_sa ε2, wt_v_sa ε3, f1.2 122 (by decide), p.2 120 (by decide), p.2 122 (by decide)]
          exact ⟨rfl, rfl, rfl⟩
        · rw [wt_w_sa ε1 k hc, wt_w_sa ε2 k hc, wt_w_sa ε3 k hc, f1.2 123 (by decide), f2.2 124 (by decide), f1.2 124 (by decide)]
          exact u2 k (by omega)
    · have d' := wt_ncle d
      have ei := wt_i1 (c := t.1) (by omega)
      have et := wt_tnI j1
      refine wt_H_gd (fun _ => ?_)
      refine wt_H_gd (fun _ => ?_)
      obtain ⟨s1, ε⟩ : ∃ o : wt_St, o = wt_sa t.2 119 (Int32.toNatClampNeg t.1) (wt_ga t.2 118 (Int32.toNatClampNeg t.1)) := ⟨_, rfl⟩
      rw [← ε]
      refine hK _ ⟨by show 0 ≤ (t.1 + (1 : Int32)).toInt; omega, wt_fr.tr g (wt_fr_sa ε) (fun i k h => h) (fun i h => h), fun m hm => ?_⟩
      have hm' : (m : Int) < (t.1 + (1 : Int32)).toInt := hm
      show wt_ga s1 119 m = wt_ga s.2 118 m
      by_cases hc : m = Int32.toNatClampNeg t.1
      · rw [hc, wt_v_sa ε, g.2 118 (by decide)]
      · rw [wt_w_sa ε m hc]; exact j2 m (by omega)
  · have c' := wt_ncle c
    have ei := wt_i1 (c := s.1) (by omega)
    have es := wt_tnI i1
    refine wt_H_gd (fun _ => ?_)
    refine wt_H_gd (fun _ => ?_)
    refine wt_H_gd (fun _ => ?_)
    refine wt_H_gd (fun _ => ?_)
    refine wt_H_gd (fun _ => ?_)
    refine wt_H_gd (fun _ => ?_)
    refine wt_H_gd (fun _ => ?_)
    refine wt_H_gd (fun _ => ?_)
    obtain ⟨s1, ε1⟩ : ∃ o : wt_St, o = wt_sa s.2 111 (Int32.toNatClampNeg s.1) (wt_ga s.2 110 (Int32.toNatClampNeg s.1)) := ⟨_, rfl⟩
    rw [← ε1]
    obtain ⟨s2, ε2⟩ : ∃ o : wt_St, o = wt_sa s1 113 (Int32.toNatClampNeg s.1) (wt_ga s1 112 (Int32.toNatClampNeg s.1)) := ⟨_, rfl⟩
    rw [← ε2]
    obtain ⟨s3, ε3⟩ : ∃ o : wt_St, o = wt_sa s2 115 (Int32.toNatClampNeg s.1) (wt_ga s2 114 (Int32.toNatClampNeg s.1)) := ⟨_, rfl⟩
    rw [← ε3]
    obtain ⟨s4, ε4⟩ : ∃ o : wt_St, o = wt_sa s3 117 (Int32.toNatClampNeg s.1) (wt_ga s3 116 (Int32.toNatClampNeg s.1)) := ⟨_, rfl⟩
    rw [← ε4]
    have f1 := wt_fr_sa ε1
    have f2 := wt_fr_sa ε2
    have f3 := wt_fr_sa ε3
    have f4 := wt_fr_sa ε4
    refine hK _ ⟨by show 0 ≤ (s.1 + (1 : Int32)).toInt; omega, wt_fr.tr (wt_fr.tr (wt_fr.tr (wt_fr.tr f f1 (fun i k h => h) (fun i h => by (try dsimp only at h); omega)) f2 (fun i k h => h) (fun i h => by (try dsimp only at h); omega)) f3 (fun i k h => h) (fun i h => by (try dsimp only at h); omega)) f4 (fun i k h => h) (fun i h => by (try dsimp only at h); omega), fun l hl => ?_⟩
    have hl' : (l : Int) < (s.1 + (1 : Int32)).toInt := hl
    show wt_ga s4 111 l = wt_ga σ 110 l ∧ wt_ga s4 113 l = wt_ga σ 112 l ∧ wt_ga s4 115 l = wt_ga σ 114 l ∧ wt_ga s4 117 l = wt_ga σ 116 l
    rw [f4.2 111 (by decide), f4.2 113 (by decide), f4.2 115 (by decide), f3.2 111 (by decide), f3.2 113 (by decide), f2.2 111 (by decide)]
    by_cases hc : l = Int32.toNatClampNeg s.1
    · rw [hc, wt_v_sa ε1, wt_v_sa ε2, wt_v_sa ε3, wt_v_sa ε4, f1.2 112 (by decide), f2.2 114 (by decide), f1.2 114 (by decide), f3.2 116 (by decide), f2.2 116 (by decide), f1.2 116 (by decide), f.2 110 (by decide), f.2 112 (by decide), f.2 114 (by decide), f.2 116 (by decide)]
      exact ⟨rfl, rfl, rfl, rfl⟩
    · rw [wt_w_sa ε1 l hc, wt_w_sa ε2 l hc, wt_w_sa ε3 l hc, wt_w_sa ε4 l hc, f1.2 113 (by decide), f2.2 115 (by decide), f1.2 115 (by decide), f3.2 117 (by decide), f2.2 117 (by decide), f1.2 117 (by decide)]
      exact i2 l (by omega)
end WTQ0
-- 71k.kase3.lean.txt
section WTQ1
set_option maxHeartbeats 4000000 in
theorem wh_become4 (n : Nat) {σ : wt_St} : wt_H (wp_ld_become n 4 12 σ) (fun q => wt_fr (fun i k => i = 4 ∧ k = 7) (fun i => 5 ≤ i ∧ i < 12) σ q ∧ (∀ l, l < 26 → wt_ga q 5 l = wt_ga σ 13 l ∧ wt_ga q 7 l = wt_ga σ 15 l ∧ wt_ga q 9 l = wt_ga σ 17 l ∧ wt_ga q 10 l = wt_ga σ 18 l) ∧ (∀ k, k < 312 → wt_ga q 6 k = wt_ga σ 14 k ∧ wt_ga q 8 k = wt_ga σ 16 k) ∧ (∀ m, m < 4 → wt_ga q 11 m = wt_ga σ 19 m) ∧ wt_gf q 4 7 = wt_gf σ 12 7) := by
  unfold wp_ld_become
  refine wt_H_bh (wh_copyRow n (a := 13) (b := 5) (by decide) (by decide)) (fun q1 h1 => ?_)
  refine wt_H_bh (wh_copyRow n (a := 14) (b := 6) (by decide) (by decide)) (fun q2 h2 => ?_)
  refine wt_H_bh (wh_copyRow n (a := 15) (b := 7) (by decide) (by decide)) (fun q3 h3 => ?_)
  refine wt_H_bh (wh_copyRow n (a := 16) (b := 8) (by decide) (by decide)) (fun q4 h4 => ?_)
  refine wt_H_bh (wh_copyRow n (a := 17) (b := 9) (by decide) (by decide)) (fun q5 h5 => ?_)
  refine wt_H_bh (wh_copyRow n (a := 18) (b := 10) (by decide) (by decide)) (fun q6 h6 => ?_)
  refine wt_H_bh (wh_copyRow n (a := 19) (b := 11) (by decide) (by decide)) (fun q7 h7 => ?_)
  obtain ⟨q8, ε⟩ : ∃ o : wt_St, o = wt_sf q7 4 7 (wt_gf q7 12 7) := ⟨_, rfl⟩
  rw [← ε]
  have f8 := wt_fr_sf ε
  have W : ∀ {a : Nat} {s s' : wt_St}, wt_fr (fun _ _ => False) (fun i => i = a) s s' → 5 ≤ a → a < 12 → wt_fr (fun i k => i = 4 ∧ k = 7) (fun i => 5 ≤ i ∧ i < 12) s s' := fun f h1 h2 => wt_frw f (fun i k h => h.elim) (fun i h => by omega)
  have T : ∀ {s s' s'' : wt_St}, wt_fr (fun i k => i = 4 ∧ k = 7) (fun i => 5 ≤ i ∧ i < 12) s s' → wt_fr (fun i k => i = 4 ∧ k = 7) (fun i => 5 ≤ i ∧ i < 12) s' s'' → wt_fr (fun i k => i = 4 ∧ k = 7) (fun i => 5 ≤ i ∧ i < 12) s s'' := fun f g => wt_fr.tr f g (fun i k h => h) (fun i h => h)
  have d1 := W h1.1 (by omega) (by omega)
  have d2 := T d1 (W h2.1 (by omega) (by omega))
  have d3 := T d2 (W h3.1 (by omega) (by omega))
  have d4 := T d3 (W h4.1 (by omega) (by omega))
  have d5 := T d4 (W h5.1 (by omega) (by omega))
  have d6 := T d5 (W h6.1 (by omega) (by omega))
  have d7 := T d6 (W h7.1 (by omega) (by omega))
  refine wt_H_some ⟨T d7 (wt_frw f8 (fun i k h => h) (fun i h => h.elim)), fun l hl => ⟨?_, ?_, ?_, ?_⟩, fun k hk => ⟨?_, ?_⟩, fun m hm => ?_, ?_⟩
  · rw [f8.2 5 (fun h => h), h7.1.2 5 (by decide), h6.1.2 5 (by decide), h5.1.2 5 (by decide), h4.1.2 5 (by decide), h3.1.2 5 (by decide), h2.1.2 5 (by decide)]
    exact h1.2 l hl
  · rw [f8.2 7 (fun h => h), h7.1.2 7 (by decide), h6.1.2 7 (by decide), h5.1.2 7 (by decide), h4.1.2 7 (by decide), h3.2 l hl, d2.2 15 (by decide)]
  · rw [f8.2 9 (fun h => h), h7.1.2 9 (by decide), h6.1.2 9 (by decide), h5.2 l hl, d4.2 17 (by decide)]
  · rw [f8.2 10 (fun h => h), h7.1.2 10 (by decide), h6.2 l hl, d5.2 18 (by decide)]
  · rw [f8.2 6 (fun h => h), h7.1.2 6 (by decide), h6.1.2 6 (by decide), h5.1.2 6 (by decide), h4.1.2 6 (by decide), h3.1.2 6 (by decide), h2.2 k hk, d1.2 14 (by decide)]
  · rw [f8.2 8 (fun h => h), h7.1.2 8 (by decide), h6.1.2 8 (by decide), h5.1.2 8 (by decide), h4.2 k hk, d3.2 16 (by decide)]
  · rw [f8.2 11 (fun h => h), h7.2 m hm, d6.2 19 (by decide)]
  · rw [wt_v_sf ε, d7.1 12 7 (by decide)]
set_option maxHeartbeats 4000000 in
theorem wh_lay39 (n : Nat) {σ : wt_St} : wt_H (wp_st_lay n 39 4 σ) (fun q => wt_fr (fun _ _ => False) (fun i => i = 40 ∨ i = 41 ∨ i = 43) σ q ∧ (∀ k, k < 312 → wt_ga q 40 k = wt_ga σ 6 k ∧ wt_ga q 41 k = -1) ∧ (∀ g, g < 4 → wt_ga q 43 g = -1)) := by
  unfold wp_st_lay wp_st_clearPages
  refine wt_H_bh (wh_copyRow n (a := 6) (b := 40) (by decide) (by decide)) (fun q1 h1 => ?_)
  refine wt_H_bh (P := fun q => wt_fr (fun _ _ => False) (fun i => i = 41 ∨ i = 43) q1 q ∧ (∀ k, k < 312 → wt_ga q 41 k = -1) ∧ (∀ g, g < 4 → wt_ga q 43 g = -1)) ?_ (fun q2 h2 => ?_)
  · refine wt_H_bh (wh_fillRow n (a := 41)) (fun q2 h2 => ?_)
    refine wt_H_bh (wh_fillRow n (a := 43)) (fun q3 h3 => ?_)
    refine wt_H_some ⟨wt_fr.tr (wt_frw h2.1 (fun i k h => h) (fun i h => Or.inl h)) h3.1 (fun i k h => h) (fun i h => Or.inr h), fun k hk => ?_, fun g hg => h3.2 g hg⟩
    rw [h3.1.2 41 (by decide)]
    exact h2.2 k hk
  · refine wt_H_some ⟨wt_fr.tr (wt_frw h1.1 (fun i k h => h) (fun i h => Or.inl h)) h2.1 (fun i k h => h) (fun i h => Or.inr h), fun k hk => ⟨?_, h2.2.1 k hk⟩, h2.2.2⟩
    rw [h2.1.2 40 (by decide)]
    exact h1.2 k hk
set_option maxHeartbeats 4000000 in
theorem wr_sum (n : Nat) (hn : 4294967297 < n) {s z : wt_St} (h : ∀ l, l < 26 → wt_ga s 5 l = wt_ga z 111 l) : wt_HH (wp_sk_piecesOfAll n s) (wp_md_allPieces n z) (fun q y => q.1 = y.1 ∧ q.2 = s ∧ y.2 = z) := by
  have k0 : (0 : Int32).toInt = 0 := by decide
  have k26 : (26 : Int32).toInt = 26 := by decide
  unfold wp_sk_piecesOfAll wp_md_allPieces
  refine wt_HH_it (fun (t : Int32 × Int32 × wt_St) (u : Int32 × Int32 × wt_St) => t.1 = u.1 ∧ t.2.1 = u.2.1 ∧ t.2.2 = s ∧ u.2.2 = z ∧ 0 ≤ t.2.1.toInt) (fun K K' t u I hK => ?_) n n _ _ ⟨rfl, rfl, rfl, rfl, by show 0 ≤ ((0 : Int32)).toInt; omega⟩
  obtain ⟨e1, e2, e3, e4, i0⟩ := I
  unfold wp_sk_piecesOfAll_B4 wp_md_allPieces_B4
  rw [← e2, e3, e4, ← e1]
  refine wt_HH_il (fun c => ?_) (fun c => ?_)
  · rw [if_pos c]
    exact wt_HH_some ⟨rfl, rfl, rfl⟩
  · rw [if_neg c]
    have c' := wt_ncle c
    have ei := wt_i1 (c := t.2.1) (by omega)
    have et := wt_tnI i0
    refine wt_HH_gr (fun _ => ?_)
    refine wt_HH_l (wq_sk_pieces n hn t.2.1 s).h (fun q hq => ?_)
    obtain ⟨q1, q2⟩ := hq
    rw [q1, q2, wt_lk_in (k := Int32.toNatClampNeg t.2.1) (by omega) (by show Int32.toNatClampNeg t.2.1 < 26; omega), h _ (by omega)]
    exact hK _ _ ⟨rfl, rfl, rfl, rfl, by show 0 ≤ (t.2.1 + (1 : Int32)).toInt; omega⟩
/-- what stands alike when a case has been taken -/
def wt_KC (q y : wt_St) : Prop := wt_pr q y 5 40 111 121 ∧ wt_pr q y 7 8 113 123 ∧ (∀ l, l < 26 → wt_ga q 9 l = wt_ga y 115 l) ∧ (∀ l, l < 26 → wt_ga q 10 l = wt_ga y 117 l) ∧ (∀ m, m < 4 → wt_ga q 11 m = wt_ga y 119 m) ∧ wt_gf q 4 7 = wt_gf y 108 25 ∧ (∀ k, k < 312 → wt_ga q 41 k = -1) ∧ (∀ k, k < 338 → wt_ga y 124 k = -1) ∧ (∀ g, g < 4 → wt_ga q 43 g = -1) ∧ (∀ g, g < 4 → wt_ga y 275 g = -1) ∧ wt_gf q 0 14 = 0 ∧ wt_gf y 108 41 = 0
set_option maxHeartbeats 4000000 in
/-- the end of kase: the tables are taken over -/
theorem wr_kaseEnd (n : Nat) (hn : 4294967297 < n) {s z : wt_St} (hp : wt_gf s 1 7 = wt_gf z 108 6) (h5 : wt_gf z 108 5 = 0) {c : Int32} (lr : wt_lr c s z) : wt_HH ((wp_ld_become n 4 12 s).bind fun q6 => (wp_st_lay n 39 4 q6).bind fun q7 => (wp_sk_piecesOfAll n (wt_sf q7 0 14 (0 : Int32))).bind fun q8 => some ((0 : Nat), q8.1, q8.2)) (wp_md_kase_B70 n z) (fun q y => q.1 = 0 ∧ q.2.1 = y.1 ∧ wt_gf y.2 108 0 = wt_gf z 108 0 ∧ wt_gf q.2.2 1 7 = wt_gf y.2 108 3 ∧ wt_KC q.2.2 y.2) := by
  have k0 : (0 : Int32).toInt = 0 := by decide
  have k4 : (4 : Int32).toInt = 4 := by decide
  obtain ⟨c1, c2, c3, c4, c5, c6, -, -⟩ := lr
  refine wt_HH_l (wh_become4 n) (fun q6 h6 => ?_)
  obtain ⟨f6, a6, b6, m6, v6⟩ := h6
  refine wt_HH_l (wh_lay39 n) (fun q7 h7 => ?_)
  obtain ⟨f7, a7, b7⟩ := h7
  obtain ⟨s8, ε8⟩ : ∃ o : wt_St, o = wt_sf q7 0 14 (0 : Int32) := ⟨_, rfl⟩
  rw [← ε8]
  have f8 := wt_fr_sf ε8
  unfold wp_md_kase_B70
  obtain ⟨z1, ε1⟩ : ∃ o : wt_St, o = wt_sf z 108 3 (wt_gf z 108 6) := ⟨_, rfl⟩
  rw [← ε1]
  have g1 := wt_fr_sf ε1
  rw [if_pos ((g1.1 108 5 (by (try dsimp only); omega)).trans h5)]
  refine wt_HH_r (wh_takesCase n) (fun z2 h2 => ?_)
  obtain ⟨g2, l2, m2, k2, v2⟩ := h2
  have e5 : ∀ l, l < 26 → wt_ga s8 5 l = wt_ga s 13 l := fun l hl => by rw [f8.2 5 (fun h => h), f7.2 5 (by decide)]; exact (a6 l hl).1
  have e111 : ∀ l, l < 26 → wt_ga z2 111 l = wt_ga z 110 l := fun l hl => by rw [(l2 l hl).1, g1.2 110 (fun h => h)]
  refine wt_HH_itr (fun y : Int32 × wt_St => 0 ≤ y.1.toInt ∧ wt_fr (fun _ _ => False) (fun i => i = 275) z2 y.2 ∧ ∀ g : Nat, (g : Int) < y.1.toInt → wt_ga y.2 275 g = -1) (fun K y I hK => ?_) n _ ⟨by show 0 ≤ ((0 : Int32)).toInt; omega, wt_fr.rf, fun l hl => absurd (show (l : Int) < ((0 : Int32)).toInt from hl) (by omega)⟩
  obtain ⟨i1, g3, i2⟩ := I
  unfold wp_md_kase_B99
  refine wt_HH_ir (fun d => ?_) (fun d => ?_)
  · have d' := wt_cle d
    obtain ⟨z4, ε4⟩ : ∃ o : wt_St, o = wt_sf y.2 108 41 (0 : Int32) := ⟨_, rfl⟩
    rw [← ε4]
    have g4 := wt_fr_sf ε4
    have tot : ∀ i, i ≠ 275 → i ≠ 111 → i ≠ 113 → i ≠ 115 → i ≠ 117 → i ≠ 119 → i ≠ 121 → i ≠ 123 → i ≠ 124 → ∀ j, wt_ga z4 i j = wt_ga z i j := fun i h1 h2 h3 h4 h5 h6 h7 h8 h9 j => by rw [g4.2 i (fun h => h), g3.2 i h1, g2.2 i (by (try dsimp only); omega), g1.2 i (fun h => h)]
    refine wt_HH_b (wr_sum n hn (s := s8) (z := z4) (fun l hl => ?_)) (fun a b hab => ?_)
    · rw [e5 l hl, g4.2 111 (fun h => h), g3.2 111 (by decide), e111 l hl]
      exact (c1 l hl).1
    · obtain ⟨ab1, ab2, ab3⟩ := hab
      refine wt_HH_some ⟨rfl, ab1, ?_, ?_, ?_⟩
      · show wt_gf b.2 108 0 = wt_gf z 108 0
        rw [ab3, g4.1 108 0 (by (try dsimp only); omega), g3.1 108 0 (fun h => h), g2.1 108 0 (by (try dsimp only); omega), g1.1 108 0 (by (try dsimp only); omega)]
      · show wt_gf a.2 1 7 = wt_gf b.2 108 3
        rw [ab2, ab3, f8.1 1 7 (by (try dsimp only); omega), f7.1 1 7 (fun h => h), f6.1 1 7 (by (try dsimp only); omega), g4.1 108 3 (by (try dsimp only); omega), g3.1 108 3 (fun h => h), g2.1 108 3 (by (try dsimp only); omega), wt_v_sf ε1]
        exact hp
      · show wt_KC a.2 b.2
        rw [ab2, ab3]
        refine ⟨fun l hl => ?_, fun l hl => ?_, fun l hl => ?_, fun l hl => ?_, fun m hm => ?_, ?_, fun k hk => ?_, fun k hk => ?_, fun g hg => ?_, fun g hg => ?_, wt_v_sf ε8, wt_v_sf ε4⟩
        · obtain ⟨p1, p2, p3, p4⟩ := c1 l hl
          rw [e5 l hl, g4.2 111 (fun h => h), g3.2 111 (by decide), e111 l hl]
          refine ⟨p1, p2, p3, fun i hi => ?_⟩
          rw [f8.2 40 (fun h => h), (a7 _ (by omega)).1, (b6 _ (by omega)).1, g4.2 121 (fun h => h), g3.2 121 (by decide), (k2 _ (by omega)).1, g1.2 120 (fun h => h)]
          exact p4 i hi
        · obtain ⟨p1, p2, p3, p4⟩ := c2 l hl
          rw [f8.2 7 (fun h => h), f7.2 7 (by decide), (a6 l hl).2.1, g4.2 113 (fun h => h), g3.2 113 (by decide), (l2 l hl).2.1, g1.2 112 (fun h => h)]
          refine ⟨p1, p2, p3, fun i hi => ?_⟩
          rw [f8.2 8 (fun h => h), f7.2 8 (by decide), (b6 _ (by omega)).2, g4.2 123 (fun h => h), g3.2 123 (by decide), (k2 _ (by omega)).2.1, g1.2 122 (fun h => h)]
          exact p4 i hi
        · rw [f8.2 9 (fun h => h), f7.2 9 (by decide), (a6 l hl).2.2.1, g4.2 115 (fun h => h), g3.2 115 (by decide), (l2 l hl).2.2.1, g1.2 114 (fun h => h)]
          exact c3 l hl
        · rw [f8.2 10 (fun h => h), f7.2 10 (by decide), (a6 l hl).2.2.2, g4.2 117 (fun h => h), g3.2 117 (by decide), (l2 l hl).2.2.2, g1.2 116 (fun h => h)]
          exact c4 l hl
        · rw [f8.2 11 (fun h => h), f7.2 11 (by decide), m6 m hm, g4.2 119 (fun h => h), g3.2 119 (by decide), m2 m hm, g1.2 118 (fun h => h)]
          exact c5 m hm
        · rw [f8.1 4 7 (by (try dsimp only); omega), f7.1 4 7 (fun h => h), v6, g4.1 108 25 (by (try dsimp only); omega), g3.1 108 25 (fun h => h), v2, g1.1 108 24 (by (try dsimp only); omega)]
          exact c6
        · rw [f8.2 41 (fun h => h)]
          exact (a7 k hk).2
        · rw [g4.2 124 (fun h => h), g3.2 124 (by decide)]
          exact (k2 k hk).2.2
        · rw [f8.2 43 (fun h => h)]
          exact b7 g hg
        · rw [g4.2 275 (fun h => h)]
          exact i2 g (by omega)
  · have d' := wt_ncle d
    have ei := wt_i1 (c := y.1) (by omega)
    have et := wt_tnI i1
    refine wt_HH_gr (fun _ => ?_)
    obtain ⟨z4, ε4⟩ : ∃ o : wt_St, o = wt_sa y.2 275 (Int32.toNatClampNeg y.1) (-1 : Int32) := ⟨_, rfl⟩
    rw [← ε4]
    refine hK _ ⟨by show 0 ≤ (y.1 + (1 : Int32)).toInt; omega, wt_fr.tr g3 (wt_fr_sa ε4) (fun i k h => h) (fun i h => h), fun g hg => ?_⟩
    have hg' : (g : Int) < (y.1 + (1 : Int32)).toInt := hg
    show wt_ga z4 275 g = -1
    by_cases hc : g = Int32.toNatClampNeg y.1
    · rw [hc, wt_v_sa ε4]
    · rw [wt_w_sa ε4 g hc]; exact i2 g (by omega)
/-! what a call leaves that is refused -/
theorem wh_refuse0 (n : Nat) {σ : wt_St} : wt_H (wp_ap_refuse n (0 : Int32) σ) (fun q => q = (0, 0, σ)) := by
  unfold wp_ap_refuse
  rw [if_pos rfl]
  exact wt_H_some rfl
theorem wh_refuse1 (n : Nat) {σ : wt_St} : wt_H (wp_ap_refuse n (1 : Int32) σ) (fun q => q = (1, 0, σ)) := by
  unfold wp_ap_refuse
  rw [if_neg (by decide)]
  exact wt_H_some rfl
theorem wh_bad0 (n : Nat) {x : Int32} {σ : wt_St} (h : wt_gf σ 108 0 = 0) : wt_H (wp_md_bad n (0 : Int32) x σ) (fun q => q = ((0 : Int32), σ)) := by
  unfold wp_md_bad wp_md_bad_B16
  rw [if_pos rfl, if_pos h]
  exact wt_H_some rfl
theorem wh_bad1 (n : Nat) {x : Int32} {σ : wt_St} (h : wt_gf σ 108 0 = 0) (hx : ¬ x = 0) : wt_H (wp_md_bad n (1 : Int32) x σ) (fun q => q = ((1 : Int32), wt_sf σ 108 0 x)) := by
  unfold wp_md_bad wp_md_bad_B16
  rw [if_neg (by decide), if_pos h, if_neg (by rw [wt_v_sf rfl]; exact hx)]
  exact wt_H_some rfl
theorem wh_badN (n : Nat) {y x : Int32} {σ : wt_St} (h : ¬ wt_gf σ 108 0 = 0) : wt_H (wp_md_bad n y x σ) (fun q => q = ((1 : Int32), σ)) := by
  unfold wp_md_bad wp_md_bad_B16
  refine wt_H_if (fun _ => ?_) (fun _ => ?_)
  · rw [if_neg h]; exact wt_H_some rfl
  · rw [if_neg h, if_neg h]; exact wt_H_some rfl
/-- the bytes on both tapes, and how many -/
def wt_TB (s z : wt_St) : Prop := (∀ j, j < 500 → wt_ga s 2 j = wt_ga z 109 j) ∧ wt_gf s 1 2 = wt_gf z 108 1
set_option maxHeartbeats 4000000 in
theorem wh_begin (n : Nat) {β : Nat → Int32} {x1 : Int32} {s : wt_St} (hx0 : 0 ≤ x1.toInt) (hx1 : x1.toInt ≤ 500) (hβ : ∀ j, j < 500 → wt_ga s 2 j = β j) : wt_H (wp_tp_begin n x1 s) (fun q => wt_tv β (Int32.toNatClampNeg x1) 0 q ∧ wt_gf q 1 7 = -1 ∧ wt_gf q 1 6 = 0 ∧ wt_gf q 1 2 = 0 ∧ wt_fr (fun i k => i = 1 ∧ 2 ≤ k) (fun _ => False) s q) := by
  have k0 : (0 : Int32).toInt = 0 := by decide
  have en := wt_tnI hx0
  unfold wp_tp_begin
  obtain ⟨s1, δ1⟩ : ∃ o : wt_St, o = wt_sf s 1 2 (0 : Int32) := ⟨_, rfl⟩
  rw [← δ1]
  obtain ⟨s2, δ2⟩ : ∃ o : wt_St, o = wt_sf s1 1 3 x1 := ⟨_, rfl⟩
  rw [← δ2]
  obtain ⟨s3, δ3⟩ : ∃ o : wt_St, o = wt_sf s2 1 4 (0 : Int32) := ⟨_, rfl⟩
  rw [← δ3]
  obtain ⟨s4, δ4⟩ : ∃ o : wt_St, o = wt_sf s3 1 5 (0 : Int32) := ⟨_, rfl⟩
  rw [← δ4]
  obtain ⟨s5, δ5⟩ : ∃ o : wt_St, o = wt_sf s4 1 6 (0 : Int32) := ⟨_, rfl⟩
  rw [← δ5]
  obtain ⟨s6, δ6⟩ : ∃ o : wt_St, o = wt_sf s5 1 7 (-1 : Int32) := ⟨_, rfl⟩
  rw [← δ6]
  have p1 := wt_fr_sf δ1
  have p2 := wt_fr_sf δ2
  have p3 := wt_fr_sf δ3
  have p4 := wt_fr_sf δ4
  have p5 := wt_fr_sf δ5
  have p6 := wt_fr_sf δ6
  have T : wt_fr (fun i k => i = 1 ∧ 2 ≤ k) (fun _ => False) s s6 := wt_fr.tr (wt_fr.tr (wt_fr.tr (wt_fr.tr (wt_fr.tr (wt_frw p1 (fun i k h => by (try dsimp only at h); omega) (fun i h => h)) p2 (fun i k h => by (try dsimp only at h); omega) (fun i h => h)) p3 (fun i k h => by (try dsimp only at h); omega) (fun i h => h)) p4 (fun i k h => by (try dsimp only at h); omega) (fun i h => h)) p5 (fun i k h => by (try dsimp only at h); omega) (fun i h => h)) p6 (fun i k h => by (try dsimp only at h); omega) (fun i h => h)
  refine wt_H_some ⟨⟨fun j hj => (T.2 2 (fun h => h) j).trans (hβ j hj), ?_, ?_, Nat.zero_le _, by omega⟩, wt_v_sf δ6, ?_, ?_, T⟩
  · rw [p6.1 1 3 (by (try dsimp only); omega), p5.1 1 3 (by (try dsimp only); omega), p4.1 1 3 (by (try dsimp only); omega), p3.1 1 3 (by (try dsimp only); omega), wt_v_sf δ2]; omega
  · rw [p6.1 1 4 (by (try dsimp only); omega), p5.1 1 4 (by (try dsimp only); omega), p4.1 1 4 (by (try dsimp only); omega), wt_v_sf δ3]; exact k0
  · rw [p6.1 1 6 (by (try dsimp only); omega), wt_v_sf δ5]
  · rw [p6.1 1 2 (by (try dsimp only); omega), p5.1 1 2 (by (try dsimp only); omega), p4.1 1 2 (by (try dsimp only); omega), p3.1 1 2 (by (try dsimp only); omega), p2.1 1 2 (by (try dsimp only); omega), wt_v_sf δ1]
set_option maxHeartbeats 4000000 in
theorem wh_starts (n : Nat) {β : Nat → Int32} {x1 : Int32} {z0 : wt_St} (hx0 : 0 ≤ x1.toInt) (hx1 : x1.toInt ≤ 500) (hβ : ∀ j, j < 500 → wt_ga z0 109 j = β j) : wt_H (wp_md_starts n x1 z0) (fun q => ∃ j, wt_run β (Int32.toNatClampNeg x1) wt_bl 0 j ∧ wt_rv β (Int32.toNatClampNeg x1) j q ∧ wt_gf q 108 5 = 0 ∧ wt_gf q 108 6 = -1 ∧ wt_gf q 108 7 = 0 ∧ wt_fr (fun i k => i = 108 ∧ (k = 1 ∨ k = 2 ∨ (4 ≤ k ∧ k < 8))) (fun _ => False) z0 q) := by
  have k0 : (0 : Int32).toInt = 0 := by decide
  have en := wt_tnI hx0
  unfold wp_md_starts
  obtain ⟨z1, ε1⟩ : ∃ o : wt_St, o = wt_sf z0 108 1 (0 : Int32) := ⟨_, rfl⟩
  rw [← ε1]
  obtain ⟨z2, ε2⟩ : ∃ o : wt_St, o = wt_sf z1 108 2 x1 := ⟨_, rfl⟩
  rw [← ε2]
  obtain ⟨z3, ε3⟩ : ∃ o : wt_St, o = wt_sf z2 108 4 (0 : Int32) := ⟨_, rfl⟩
  rw [← ε3]
  obtain ⟨z4, ε4⟩ : ∃ o : wt_St, o = wt_sf z3 108 5 (0 : Int32) := ⟨_, rfl⟩
  rw [← ε4]
  obtain ⟨z5, ε5⟩ : ∃ o : wt_St, o = wt_sf z4 108 6 (-1 : Int32) := ⟨_, rfl⟩
  rw [← ε5]
  obtain ⟨z6, ε6⟩ : ∃ o : wt_St, o = wt_sf z5 108 7 (0 : Int32) := ⟨_, rfl⟩
  rw [← ε6]
  have r1 := wt_fr_sf ε1
  have r2 := wt_fr_sf ε2
  have r3 := wt_fr_sf ε3
  have r4 := wt_fr_sf ε4
  have r5 := wt_fr_sf ε5
  have r6 := wt_fr_sf ε6
  have T : wt_fr (fun i k => i = 108 ∧ (k = 1 ∨ k = 2 ∨ (4 ≤ k ∧ k < 8))) (fun _ => False) z0 z6 := wt_fr.tr (wt_fr.tr (wt_fr.tr (wt_fr.tr (wt_fr.tr (wt_frw r1 (fun i k h => by (try dsimp only at h); omega) (fun i h => h)) r2 (fun i k h => by (try dsimp only at h); omega) (fun i h => h)) r3 (fun i k h => by (try dsimp only at h); omega) (fun i h => h)) r4 (fun i k h => by (try dsimp only at h); omega) (fun i h => h)) r5 (fun i k h => by (try dsimp only at h); omega) (fun i h => h)) r6 (fun i k h => by (try dsimp only at h); omega) (fun i h => h)
  have rv : wt_rv β (Int32.toNatClampNeg x1) 0 z6 := by
    refine ⟨fun j hj => (T.2 109 (fun h => h) j).trans (hβ j hj), ?_, ?_, Nat.zero_le _, by omega⟩
    · rw [r6.1 108 2 (by (try dsimp only); omega), r5.1 108 2 (by (try dsimp only); omega), r4.1 108 2 (by (try dsimp only); omega), r3.1 108 2 (by (try dsimp only); omega), wt_v_sf ε2]; omega
    · rw [r6.1 108 4 (by (try dsimp only); omega), r5.1 108 4 (by (try dsimp only); omega), r4.1 108 4 (by (try dsimp only); omega), wt_v_sf ε3]; exact k0
  refine wt_H_bh (wh_blanks n rv) (fun z7 hz7 => ?_)
  obtain ⟨j, rj, rv7, g7⟩ := hz7
  refine wt_H_some ⟨j, rj, rv7, ?_, ?_, ?_, wt_fr.tr T g7 (fun i k h => by (try dsimp only at h); omega) (fun i h => h)⟩
  · rw [g7.1 108 5 (by (try dsimp only); omega), r6.1 108 5 (by (try dsimp only); omega), r5.1 108 5 (by (try dsimp only); omega), wt_v_sf ε4]
  · rw [g7.1 108 6 (by (try dsimp only); omega), r6.1 108 6 (by (try dsimp only); omega), wt_v_sf ε5]
  · rw [g7.1 108 7 (by (try dsimp only); omega), wt_v_sf ε6]
end WTQ1
-- 72.ri.lean.txt
section WTQ2
/-! the reference's numbers: ranges that always hold -/
abbrev wt_fam : List (Nat × Nat × Int × Int) := [(110, 111, 0, 12), (111, 112, 0, 13), (112, 114, 0, 12), (120, 122, 0, 400), (122, 124, 0, 400), (125, 127, 0, 9), (127, 129, 0, 3), (132, 192, 0, 25), (193, 253, 0, 25), (253, 254, 0, 12), (255, 263, 0, 59), (274, 275, 0, 59), (275, 276, -1, 7), (276, 277, 0, 108), (278, 282, 0, 337), (288, 289, 0, 337), (319, 320, 0, 59), (286, 287, 0, 400), (114, 116, 0, 99)]
abbrev wt_famF : List (Nat × Int × Int) := [(1, 0, 500), (2, 0, 500), (4, 0, 500), (5, 0, 3), (7, 0, 60), (27, 0, 60), (28, 0, 60), (39, 0, 8), (40, 0, 10), (41, 0, 3), (54, 0, 108)]
def wt_RW (σ : wt_St) : Prop := ∀ i, 264 ≤ i → i < 274 → (0 ≤ (wt_ga σ i 0).toInt ∧ (wt_ga σ i 0).toInt ≤ 7) ∧ 0 ≤ (wt_ga σ i 1).toInt ∧ (wt_ga σ i 1).toInt ≤ 400
def wt_RI (σ : wt_St) : Prop := (∀ q ∈ wt_fam, ∀ i, q.1 ≤ i → i < q.2.1 → ∀ j, q.2.2.1 ≤ (wt_ga σ i j).toInt ∧ (wt_ga σ i j).toInt ≤ q.2.2.2) ∧ (∀ q ∈ wt_famF, q.2.1 ≤ (wt_gf σ 108 q.1).toInt ∧ (wt_gf σ 108 q.1).toInt ≤ q.2.2) ∧ wt_RW σ
theorem wt_R_ga {σ : wt_St} (h : wt_RI σ) (k : Nat) {q : Nat × Nat × Int × Int} (hk : wt_fam[k]? = some q) (i : Nat) (h1 : q.1 ≤ i) (h2 : i < q.2.1) (j : Nat) : q.2.2.1 ≤ (wt_ga σ i j).toInt ∧ (wt_ga σ i j).toInt ≤ q.2.2.2 := h.1 q (List.mem_of_getElem? hk) i h1 h2 j
theorem wt_R_gf {σ : wt_St} (h : wt_RI σ) (k : Nat) {q : Nat × Int × Int} (hk : wt_famF[k]? = some q) : q.2.1 ≤ (wt_gf σ 108 q.1).toInt ∧ (wt_gf σ 108 q.1).toInt ≤ q.2.2 := h.2.1 q (List.mem_of_getElem? hk)
theorem wt_R_w {σ : wt_St} (h : wt_RI σ) (i : Nat) (h1 : 264 ≤ i) (h2 : i < 274) : (0 ≤ (wt_ga σ i 0).toInt ∧ (wt_ga σ i 0).toInt ≤ 7) ∧ 0 ≤ (wt_ga σ i 1).toInt ∧ (wt_ga σ i 1).toInt ≤ 400 := h.2.2 i h1 h2
theorem wt_fam_w : wt_fam.all (fun q => decide (q.2.1 ≤ 264) || decide (274 ≤ q.1)) = true := by decide +kernel
theorem wt_fam_apart : (List.range wt_fam.length).all (fun a => (List.range wt_fam.length).all (fun b => a == b || decide ((wt_fam.getD a (0, 0, 0, 0)).2.1 ≤ (wt_fam.getD b (0, 0, 0, 0)).1) || decide ((wt_fam.getD b (0, 0, 0, 0)).2.1 ≤ (wt_fam.getD a (0, 0, 0, 0)).1))) = true := by decide +kernel
theorem wt_fam_one {a b i : Nat} {p q : Nat × Nat × Int × Int} (ha : wt_fam[a]? = some p) (hb : wt_fam[b]? = some q) (p1 : p.1 ≤ i) (p2 : i < p.2.1) (q1 : q.1 ≤ i) (q2 : i < q.2.1) : p = q := by
  have la := (List.getElem?_eq_some_iff.mp ha).1
  have lb := (List.getElem?_eq_some_iff.mp hb).1
  have h := List.all_eq_true.mp (List.all_eq_true.mp wt_fam_apart a (List.mem_range.mpr la)) b (List.mem_range.mpr lb)
  have ea : wt_fam.getD a (0, 0, 0, 0) = p := by rw [List.getD_eq_getElem?_getD, ha]; rfl
  have eb : wt_fam.getD b (0, 0, 0, 0) = q := by rw [List.getD_eq_getElem?_getD, hb]; rfl
  rw [ea, eb] at h
  simp only [Bool.or_eq_true, beq_iff_eq, decide_eq_true_eq] at h
  rcases h with (h | h) | h
  · subst h
    exact Option.some.inj (ha.symm.trans hb)
  · omega
  · omega
theorem wt_RI_in {σ σ' : wt_St} {i j : Nat} {v : Int32} (h : wt_RI σ) (e : σ' = wt_sa σ i j v) (k : Nat) {q : Nat × Nat × Int × Int} (hk : wt_fam[k]? = some q) (h1 : q.1 ≤ i) (h2 : i < q.2.1) (h3 : q.2.2.1 ≤ v.toInt) (h4 : v.toInt ≤ q.2.2.2) : wt_RI σ' := by
  subst e
  refine ⟨fun p hp i' p1 p2 j' => ?_, fun p hp => h.2.1 p hp, fun i' w1 w2 => ?_⟩
  rotate_left
  · have hz := List.all_eq_true.mp wt_fam_w q (List.mem_of_getElem? hk)
    simp only [Bool.or_eq_true, decide_eq_true_eq] at hz
    rw [wt_ga_sa, wt_ga_sa, if_neg (by omega), if_neg (by omega)]
    exact h.2.2 i' w1 w2
  rw [wt_ga_sa]
  by_cases hc : i' = i ∧ j' = j
  · rw [if_pos hc]
    obtain ⟨rfl, rfl⟩ := hc
    obtain ⟨b, hb⟩ := List.getElem?_of_mem hp
    have := wt_fam_one hk hb h1 h2 p1 p2
    subst this
    exact ⟨h3, h4⟩
  · rw [if_neg hc]
    exact h.1 p hp i' p1 p2 j'
theorem wt_RI_no {σ σ' : wt_St} {i j : Nat} {v : Int32} (h : wt_RI σ) (e : σ' = wt_sa σ i j v) (a b : Nat) (hab : (wt_fam.all (fun q => decide (q.2.1 ≤ a) || decide (b ≤ q.1)) && (decide (274 ≤ a) || decide (b ≤ 264))) = true) (h1 : a ≤ i) (h2 : i < b) : wt_RI σ' := by
  subst e
  rw [Bool.and_eq_true] at hab
  refine ⟨fun p hp i' p1 p2 j' => ?_, fun p hp => h.2.1 p hp, fun i' w1 w2 => ?_⟩
  rotate_left
  · have hz := hab.2
    simp only [Bool.or_eq_true, decide_eq_true_eq] at hz
    rw [wt_ga_sa, wt_ga_sa, if_neg (by omega), if_neg (by omega)]
    exact h.2.2 i' w1 w2
  rw [wt_ga_sa, if_neg]
  · exact h.1 p hp i' p1 p2 j'
  · rintro ⟨rfl, -⟩
    have := List.all_eq_true.mp hab.1 p hp
    simp only [Bool.or_eq_true, decide_eq_true_eq] at this
    omega
theorem wt_RI_fin {σ σ' : wt_St} {kf : Nat} {v : Int32} (h : wt_RI σ) (e : σ' = wt_sf σ 108 kf v) (k : Nat) {q : Nat × Int × Int} (hk : wt_famF[k]? = some q) (hq : q.1 = kf) (h3 : q.2.1 ≤ v.toInt) (h4 : v.toInt ≤ q.2.2) : wt_RI σ' := by
  subst e
  subst hq
  refine ⟨fun p hp i' p1 p2 j' => h.1 p hp i' p1 p2 j', fun p hp => ?_, fun i' w1 w2 => h.2.2 i' w1 w2⟩
  rw [wt_gf_sf]
  by_cases hc : (108 : Nat) = 108 ∧ p.1 = q.1
  · rw [if_pos hc]
    have hu : wt_famF.all (fun p => wt_famF.all (fun q => (! (p.1 == q.1)) || p == q)) = true := by decide +kernel
    have := List.all_eq_true.mp (List.all_eq_true.mp hu p hp) q (List.mem_of_getElem? hk)
    simp only [Bool.or_eq_true, Bool.not_eq_true', beq_eq_false_iff_ne, beq_iff_eq] at this
    rcases this with z | z
    · exact absurd hc.2 z
    · subst z
      exact ⟨h3, h4⟩
  · rw [if_neg hc]
    exact h.2.1 p hp
theorem wt_RI_fno {σ σ' : wt_St} {i kf : Nat} {v : Int32} (h : wt_RI σ) (e : σ' = wt_sf σ i kf v) (hn : i ≠ 108 ∨ wt_famF.all (fun q => ! (q.1 == kf)) = true) : wt_RI σ' := by
  subst e
  refine ⟨fun p hp i' p1 p2 j' => h.1 p hp i' p1 p2 j', fun p hp => ?_, fun i' w1 w2 => h.2.2 i' w1 w2⟩
  rw [wt_gf_sf, if_neg]
  · exact h.2.1 p hp
  · rintro ⟨z1, z2⟩
    rcases hn with hn | hn
    · exact hn z1.symm
    · have := List.all_eq_true.mp hn p hp
      rw [z2] at this
      simp at this
/-- what another's changes leave -/
theorem wt_RI_fr {σ σ' : wt_St} {F : Nat → Nat → Prop} {A : Nat → Prop} (h : wt_RI σ) (f : wt_fr F A σ σ') (hF : ∀ k, ¬ F 108 k) (hA : ∀ i, 108 ≤ i → ¬ A i) : wt_RI σ' := by
  refine ⟨fun p hp i p1 p2 j => ?_, fun p hp => ?_, fun i w1 w2 => ?_⟩
  · have hl : wt_fam.all (fun q => decide (108 ≤ q.1)) = true := by decide +kernel
    have := of_decide_eq_true (List.all_eq_true.mp hl p hp)
    rw [f.2 i (hA i (by omega)) j]
    exact h.1 p hp i p1 p2 j
  · rw [f.1 108 p.1 (hF p.1)]
    exact h.2.1 p hp
  · rw [f.2 i (hA i (by omega)) 0, f.2 i (hA i (by omega)) 1]
    exact h.2.2 i w1 w2
theorem wt_tn0 : Int32.toNatClampNeg (0 : Int32) = 0 := by decide
theorem wt_tn1 : Int32.toNatClampNeg (1 : Int32) = 1 := by decide
theorem wt_R_w0 {σ : wt_St} (h : wt_RI σ) (i : Nat) (h1 : 264 ≤ i) (h2 : i < 274) : 0 ≤ (wt_ga σ i (Int32.toNatClampNeg (0 : Int32))).toInt ∧ (wt_ga σ i (Int32.toNatClampNeg (0 : Int32))).toInt ≤ 7 := by
  rw [wt_tn0]
  exact (h.2.2 i h1 h2).1
theorem wt_R_w1 {σ : wt_St} (h : wt_RI σ) (i : Nat) (h1 : 264 ≤ i) (h2 : i < 274) : 0 ≤ (wt_ga σ i (Int32.toNatClampNeg (1 : Int32))).toInt ∧ (wt_ga σ i (Int32.toNatClampNeg (1 : Int32))).toInt ≤ 400 := by
  rw [wt_tn1]
  exact (h.2.2 i h1 h2).2
def wt_M12 (σ : wt_St) : Prop := ∀ j, (wt_ga σ 111 j).toInt ≤ 12
theorem wt_M_in {σ σ' : wt_St} {j : Nat} {v : Int32} (h : wt_M12 σ) (e : σ' = wt_sa σ 111 j v) (hv : v.toInt ≤ 12) : wt_M12 σ' := by
  subst e
  intro j'
  rw [wt_ga_sa]
  by_cases hc : (111 : Nat) = 111 ∧ j' = j
  · rw [if_pos hc]; exact hv
  · rw [if_neg hc]; exact h j'
theorem wt_M_no {σ σ' : wt_St} {i j : Nat} {v : Int32} (h : wt_M12 σ) (e : σ' = wt_sa σ i j v) (hi : ¬ i = 111) : wt_M12 σ' := by
  subst e
  intro j'
  rw [wt_ga_sa, if_neg (fun z => hi z.1.symm)]
  exact h j'
theorem wt_M_sf {σ σ' : wt_St} {i k : Nat} {v : Int32} (h : wt_M12 σ) (e : σ' = wt_sf σ i k v) : wt_M12 σ' := by
  subst e
  exact h
theorem wt_M_fr {σ σ' : wt_St} {F : Nat → Nat → Prop} {A : Nat → Prop} (h : wt_M12 σ) (f : wt_fr F A σ σ') (hA : ¬ A 111) : wt_M12 σ' := fun j => by
  rw [f.2 111 hA j]
  exact h j
theorem wt_RI_w {σ σ' : wt_St} {i j : Nat} {v : Int32} (h : wt_RI σ) (e : σ' = wt_sa σ i j v) (h1 : 264 ≤ i) (h2 : i < 274) (h3 : j = 0 → 0 ≤ v.toInt ∧ v.toInt ≤ 7) (h4 : j = 1 → 0 ≤ v.toInt ∧ v.toInt ≤ 400) : wt_RI σ' := by
  subst e
  refine ⟨fun p hp i' p1 p2 j' => ?_, fun p hp => h.2.1 p hp, fun i' w1 w2 => ?_⟩
  · have hz := List.all_eq_true.mp wt_fam_w p hp
    simp only [Bool.or_eq_true, decide_eq_true_eq] at hz
    rw [wt_ga_sa, if_neg (by omega)]
    exact h.1 p hp i' p1 p2 j'
  · have hw := h.2.2 i' w1 w2
    rw [wt_ga_sa, wt_ga_sa]
    refine ⟨?_, ?_⟩
    · by_cases hc : i' = i ∧ (0 : Nat) = j
      · rw [if_pos hc]; exact h3 hc.2.symm
      · rw [if_neg hc]; exact hw.1
    · by_cases hc : i' = i ∧ (1 : Nat) = j
      · rw [if_pos hc]; exact h4 hc.2.symm
      · rw [if_neg hc]; exact hw.2
def wt_sum (f : Nat → Int) : Nat → Int
  | 0 => 0
  | m + 1 => wt_sum f m + f m
/-- what is needed: never below none, and not more than fits on a page -/
def wt_NB (σ : wt_St) : Prop := (∀ l, l < 26 → 0 ≤ (wt_ga σ 287 l).toInt) ∧ wt_sum (fun l => (wt_ga σ 287 l).toInt) 26 ≤ 108
/-- how many of the first are such -/
def wt_ct (f : Nat → Int) (l : Int) (m : Nat) : Int := wt_sum (fun k => if f k = l then 1 else 0) m
/-- what a word needs of a letter, what a text needs, what a page holds -/
def wt_nw (σ : wt_St) (w : Nat) (l : Int) : Int := wt_ct (fun k => (wt_ga σ (193 + w) k).toInt) l (Int32.toNatClampNeg (wt_ga σ 126 w))
def wt_nt (σ : wt_St) (t : Nat) (l : Int) : Int := wt_sum (fun k => wt_nw σ (Int32.toNatClampNeg (wt_ga σ (255 + t) k)) l) (Int32.toNatClampNeg (wt_ga σ 253 t))
def wt_pc (σ : wt_St) (g : Nat) (l : Int) : Int := wt_ct (fun k => (wt_ga σ (278 + g) k).toInt / 13) l (Int32.toNatClampNeg (wt_ga σ 276 g))
def wt_PG (σ : wt_St) : Prop := ∀ g, g < 4 → (wt_ga σ 275 g).toInt ≠ -1 → (wt_ga σ 275 g).toInt < (wt_gf σ 108 39).toInt ∧ ∀ l : Int, 0 ≤ l → l < 26 → wt_nt σ (Int32.toNatClampNeg (wt_ga σ 275 g)) l ≤ wt_pc σ g l
def wt_PA (i : Nat) : Prop := i = 126 ∨ (193 ≤ i ∧ i < 254) ∨ (255 ≤ i ∧ i < 263) ∨ i = 275 ∨ i = 276 ∨ (278 ≤ i ∧ i < 282)
theorem wt_nw_fr {σ σ' : wt_St} {w : Nat} {l : Int} (hw : w ≤ 59) (h : ∀ i, wt_PA i → ∀ j, wt_ga σ' i j = wt_ga σ i j) : wt_nw σ' w l = wt_nw σ w l := by
  unfold wt_nw
  rw [h 126 (Or.inl rfl) w]
  have e : (fun k => (wt_ga σ' (193 + w) k).toInt) = (fun k => (wt_ga σ (193 + w) k).toInt) := by
    funext k
    rw [h (193 + w) (Or.inr (Or.inl ⟨by omega, by omega⟩)) k]
  rw [e]
theorem wt_nt_fr {σ σ' : wt_St} {t : Nat} {l : Int} (r : wt_RI σ) (ht : t ≤ 7) (h : ∀ i, wt_PA i → ∀ j, wt_ga σ' i j = wt_ga σ i j) : wt_nt σ' t l = wt_nt σ t l := by
  unfold wt_nt
  rw [h 253 (Or.inr (Or.inl ⟨by omega, by omega⟩)) t]
  have e : (fun k => wt_nw σ' (Int32.toNatClampNeg (wt_ga σ' (255 + t) k)) l) = (fun k => wt_nw σ (Int32.toNatClampNeg (wt_ga σ (255 + t) k)) l) := by
    funext k
    have g := wt_R_ga r 10 rfl (255 + t) (show 255 ≤ 255 + t by omega) (show 255 + t < 263 by omega) k
    rw [h (255 + t) (Or.inr (Or.inr (Or.inl ⟨by omega, by omega⟩))) k]
    exact wt_nw_fr (wt_tnle (b := 59) g.2) h
  rw [e]
theorem wt_pc_fr {σ σ' : wt_St} {g : Nat} {l : Int} (hg : g < 4) (h : ∀ i, wt_PA i → ∀ j, wt_ga σ' i j = wt_ga σ i j) : wt_pc σ' g l = wt_pc σ g l := by
  unfold wt_pc
  rw [h 276 (Or.inr (Or.inr (Or.inr (Or.inr (Or.inl rfl))))) g]
  have e : (fun k => (wt_ga σ' (278 + g) k).toInt / 13) = (fun k => (wt_ga σ (278 + g) k).toInt / 13) := by
    funext k
    rw [h (278 + g) (Or.inr (Or.inr (Or.inr (Or.inr (Or.inr ⟨by omega, by omega⟩))))) k]
  rw [e]
theorem wt_PG_eq {σ σ' : wt_St} (r : wt_RI σ) (p : wt_PG σ) (hf : wt_gf σ' 108 39 = wt_gf σ 108 39) (h : ∀ i, wt_PA i → ∀ j, wt_ga σ' i j = wt_ga σ i j) : wt_PG σ' := by
  intro g hg hne
  have e := h 275 (Or.inr (Or.inr (Or.inr (Or.inl rfl)))) g
  rw [e] at hne ⊢
  rw [hf]
  refine ⟨(p g hg hne).1, fun l h0 h1 => ?_⟩
  have gt := wt_R_ga r 12 rfl 275 (by decide) (by decide) g
  rw [wt_nt_fr r (wt_tnle (b := 7) gt.2) h, wt_pc_fr hg h]
  exact (p g hg hne).2 l h0 h1
theorem wt_PG_fr {σ σ' : wt_St} {F : Nat → Nat → Prop} {A : Nat → Prop} (r : wt_RI σ) (p : wt_PG σ) (f : wt_fr F A σ σ') (hF : ¬ F 108 39) (hA : ∀ i, wt_PA i → ¬ A i) : wt_PG σ' := wt_PG_eq r p (f.1 108 39 hF) (fun i hi j => f.2 i (hA i hi) j)
theorem wt_sum_bd {f : Nat → Int} {c : Int} : ∀ (m : Nat), (∀ k, k < m → 0 ≤ f k ∧ f k ≤ c) → 0 ≤ wt_sum f m ∧ wt_sum f m ≤ c * m := by
  intro m
  induction m with
  | zero => intro _; exact ⟨Int.le_refl _, by simp [wt_sum]⟩
  | succ m ih =>
    intro h
    have h1 := ih (fun k hk => h k (by omega))
    have h2 := h m (by omega)
    have e : c * ((m + 1 : Nat) : Int) = c * m + c := by rw [Int.natCast_succ, Int.mul_add, Int.mul_one]
    rw [e]
    show 0 ≤ wt_sum f m + f m ∧ wt_sum f m + f m ≤ c * m + c
    omega
theorem wt_sum_congr {f g : Nat → Int} : ∀ (m : Nat), (∀ k, k < m → f k = g k) → wt_sum f m = wt_sum g m := by
  intro m
  induction m with
  | zero => intro _; rfl
  | succ m ih =>
    intro h
    show wt_sum f m + f m = wt_sum g m + g m
    rw [ih (fun k hk => h k (by omega)), h m (by omega)]
theorem wt_sum_add {f g : Nat → Int} : ∀ (m : Nat), wt_sum (fun k => f k + g k) m = wt_sum f m + wt_sum g m := by
  intro m
  induction m with
  | zero => rfl
  | succ m ih =>
    show wt_sum (fun k => f k + g k) m + (f m + g m) = wt_sum f m + f m + (wt_sum g m + g m)
    omega
theorem wt_sum_le {f g : Nat → Int} : ∀ (m : Nat), (∀ k, k < m → f k ≤ g k) → wt_sum f m ≤ wt_sum g m := by
  intro m
  induction m with
  | zero => intro _; exact Int.le_refl _
  | succ m ih =>
    intro h
    have h1 := ih (fun k hk => h k (by omega))
    have h2 := h m (by omega)
    show wt_sum f m + f m ≤ wt_sum g m + g m
    omega
theorem wt_ct_bd (f : Nat → Int) (l : Int) (m : Nat) : 0 ≤ wt_ct f l m ∧ wt_ct f l m ≤ m := by
  have h := wt_sum_bd (f := fun k => if f k = l then 1 else 0) (c := 1) m (fun k _ => by
    show 0 ≤ (if f k = l then (1 : Int) else 0) ∧ (if f k = l then (1 : Int) else 0) ≤ 1
    split <;> omega)
  unfold wt_ct
  omega
theorem wt_sum_one (v : Int) : ∀ (m : Nat), wt_sum (fun l => if v = (l : Int) then 1 else 0) m ≤ 1 ∧ (v < 0 ∨ (m : Int) ≤ v → wt_sum (fun l => if v = (l : Int) then 1 else 0) m = 0) := by
  intro m
  induction m with
  | zero => exact ⟨by simp [wt_sum], fun _ => rfl⟩
  | succ m ih =>
    show wt_sum (fun l => if v = (l : Int) then 1 else 0) m + (if v = (m : Int) then 1 else 0) ≤ 1 ∧ (v < 0 ∨ ((m + 1 : Nat) : Int) ≤ v → wt_sum (fun l => if v = (l : Int) then 1 else 0) m + (if v = (m : Int) then 1 else 0) = 0)
    by_cases h : v = (m : Int)
    · rw [if_pos h]
      have := ih.2 (by omega)
      omega
    · rw [if_neg h]
      refine ⟨by omega, fun hh => ?_⟩
      have := ih.2 (by omega)
      omega
theorem wt_sum_ct (f : Nat → Int) (L : Nat) : ∀ (m : Nat), wt_sum (fun l => wt_ct f (l : Int) m) L ≤ m := by
  intro m
  induction m with
  | zero =>
    have h := wt_sum_bd (f := fun l => wt_ct f (l : Int) 0) (c := 0) L (fun k _ => ⟨Int.le_refl _, Int.le_refl _⟩)
    omega
  | succ m ih =>
    have e : wt_sum (fun l => wt_ct f (l : Int) (m + 1)) L = wt_sum (fun l => wt_ct f (l : Int) m) L + wt_sum (fun l => if f m = (l : Int) then 1 else 0) L := wt_sum_add L
    have h1 := (wt_sum_one (f m) L).1
    rw [e]
    omega
theorem wt_nw_bd {σ : wt_St} (r : wt_RI σ) (w : Nat) (l : Int) : 0 ≤ wt_nw σ w l ∧ wt_nw σ w l ≤ 9 := by
  have h := wt_ct_bd (fun k => (wt_ga σ (193 + w) k).toInt) l (Int32.toNatClampNeg (wt_ga σ 126 w))
  have g : 0 ≤ (wt_ga σ 126 w).toInt ∧ (wt_ga σ 126 w).toInt ≤ 9 := wt_R_ga r 5 rfl 126 (by decide) (by decide) w
  have := wt_tnI g.1
  unfold wt_nw
  omega
/-- how many pieces of a letter lie free and are good for so many -/
def wt_gf1 (σ : wt_St) (c : Int) (i : Nat) : Int := if (wt_ga σ 124 i).toInt = -1 ∧ c ≤ (wt_ga σ 121 i).toInt then 1 else 0
def wt_go (σ : wt_St) (c : Int) (l : Nat) : Int := wt_sum (fun j => wt_gf1 σ c (13 * l + j)) (Int32.toNatClampNeg (wt_ga σ 111 l))
theorem wt_gf1_bd (σ : wt_St) (c : Int) (i : Nat) : 0 ≤ wt_gf1 σ c i ∧ wt_gf1 σ c i ≤ 1 := by
  unfold wt_gf1
  split <;> omega
theorem wt_sum_off {f g : Nat → Int} {j : Nat} : ∀ (m : Nat), (∀ k, k < m → k ≠ j → f k = g k) → f j ≤ g j + 1 → wt_sum f m ≤ wt_sum g m + 1 ∧ (m ≤ j → wt_sum f m = wt_sum g m) := by
  intro m
  induction m with
  | zero => intro _ _; exact ⟨by simp [wt_sum], fun _ => rfl⟩
  | succ m ih =>
    intro h hj
    have h1 := ih (fun k hk => h k (by omega)) hj
    show wt_sum f m + f m ≤ wt_sum g m + g m + 1 ∧ (m + 1 ≤ j → wt_sum f m + f m = wt_sum g m + g m)
    by_cases e : m = j
    · subst e
      have := h1.2 (Nat.le_refl _)
      exact ⟨by omega, fun z => by omega⟩
    · have h2 := h m (by omega) e
      refine ⟨by omega, fun z => ?_⟩
      have := h1.2 (by omega)
      omega
theorem wt_go_eq {σ σ' : wt_St} {c : Int} {l : Nat} (hm : (wt_ga σ 111 l).toInt ≤ 13) (e : wt_ga σ' 111 l = wt_ga σ 111 l) (h : ∀ j, j < 13 → wt_ga σ' 124 (13 * l + j) = wt_ga σ 124 (13 * l + j) ∧ wt_ga σ' 121 (13 * l + j) = wt_ga σ 121 (13 * l + j)) : wt_go σ' c l = wt_go σ c l := by
  unfold wt_go
  rw [e]
  have := wt_tnle (b := 13) hm
  refine wt_sum_congr _ (fun j hj => ?_)
  show wt_gf1 σ' c (13 * l + j) = wt_gf1 σ c (13 * l + j)
  unfold wt_gf1
  rw [(h j (by omega)).1, (h j (by omega)).2]
theorem wt_go_off {σ σ' : wt_St} {c : Int} {l j0 : Nat} (hm : (wt_ga σ 111 l).toInt ≤ 13) (e : wt_ga σ' 111 l = wt_ga σ 111 l) (h : ∀ j, j < 13 → j ≠ j0 → wt_ga σ' 124 (13 * l + j) = wt_ga σ 124 (13 * l + j) ∧ wt_ga σ' 121 (13 * l + j) = wt_ga σ 121 (13 * l + j)) : wt_go σ c l ≤ wt_go σ' c l + 1 := by
  unfold wt_go
  rw [e]
  have hm2 := wt_tnle (b := 13) hm
  refine (wt_sum_off (j := j0) _ (fun j hj hne => ?_) ?_).1
  · show wt_gf1 σ c (13 * l + j) = wt_gf1 σ' c (13 * l + j)
    unfold wt_gf1
    rw [(h j (by omega) hne).1, (h j (by omega) hne).2]
  · have a := wt_gf1_bd σ c (13 * l + j0)
    have b := wt_gf1_bd σ' c (13 * l + j0)
    show wt_gf1 σ c (13 * l + j0) ≤ wt_gf1 σ' c (13 * l + j0) + 1
    omega
theorem wt_sum_pre {f : Nat → Int} {a : Nat} : ∀ (m : Nat), a ≤ m → (∀ k, k < m → 0 ≤ f k) → wt_sum f a ≤ wt_sum f m := by
  intro m
  induction m with
  | zero => intro h _; rw [show a = 0 by omega]; exact Int.le_refl _
  | succ m ih =>
    intro h hf
    by_cases e : a = m + 1
    · rw [e]; exact Int.le_refl _
    · have h1 := ih (by omega) (fun k hk => hf k (by omega))
      have h2 := hf m (by omega)
      show wt_sum f a ≤ wt_sum f m + f m
      omega
theorem wt_ct_congr {f g : Nat → Int} {l : Int} (m : Nat) (h : ∀ k, k < m → f k = g k) : wt_ct f l m = wt_ct g l m := by
  unfold wt_ct
  exact wt_sum_congr m (fun k hk => by show (if f k = l then (1 : Int) else 0) = (if g k = l then 1 else 0); rw [h k hk])
abbrev wt_tk (σ : wt_St) (l : Nat) : Int := wt_ct (fun k => (wt_ga σ 288 k).toInt / 13) l (Int32.toNatClampNeg (wt_gf σ 108 54))
def wt_LP (σ : wt_St) : Prop := ∀ j, j < 338 → 0 ≤ (wt_ga σ 121 j).toInt ∧ (wt_ga σ 121 j).toInt ≤ 400
theorem wt_LP_fr {σ σ' : wt_St} {F : Nat → Nat → Prop} {A : Nat → Prop} (h : wt_LP σ) (f : wt_fr F A σ σ') (hA : ¬ A 121) : wt_LP σ' := fun j hj => by
  rw [f.2 121 hA j]
  exact h j hj
theorem wt_sum_all {f : Nat → Int} : ∀ (m : Nat), (∀ k, k < m → f k = 1) → wt_sum f m = m := by
  intro m
  induction m with
  | zero => intro _; rfl
  | succ m ih =>
    intro h
    show wt_sum f m + f m = ((m + 1 : Nat) : Int)
    rw [ih (fun k hk => h k (by omega)), h m (by omega)]
    omega
theorem wt_NB_le {σ : wt_St} (h : wt_NB σ) (l : Nat) (hl : l < 26) : 0 ≤ (wt_ga σ 287 l).toInt ∧ (wt_ga σ 287 l).toInt ≤ 108 := by
  have h1 := wt_sum_pre (f := fun l => (wt_ga σ 287 l).toInt) (a := l + 1) 26 (by omega) h.1
  have h2 : wt_sum (fun l => (wt_ga σ 287 l).toInt) (l + 1) = wt_sum (fun l => (wt_ga σ 287 l).toInt) l + (wt_ga σ 287 l).toInt := rfl
  have h3 := wt_sum_pre (f := fun l => (wt_ga σ 287 l).toInt) (a := 0) l (by omega) (fun k hk => h.1 k (by omega))
  have h4 : wt_sum (fun l => (wt_ga σ 287 l).toInt) 0 = 0 := rfl
  have := h.1 l hl
  have := h.2
  omega
abbrev wt_un (σ : wt_St) (m : Nat) : Int := wt_sum (fun j => if (wt_ga σ 320 j).toInt < 0 then 1 else 0) m
/-- the pieces taken: they stand on that page, are good for so many, and no one comes twice -/
def wt_TD (σ : wt_St) (c p : Int) : Prop := ∀ k : Nat, (k : Int) < (wt_gf σ 108 54).toInt → (wt_ga σ 124 (Int32.toNatClampNeg (wt_ga σ 288 k))).toInt = p ∧ c ≤ (wt_ga σ 121 (Int32.toNatClampNeg (wt_ga σ 288 k))).toInt ∧ ∀ k', k' < k → wt_ga σ 288 k' ≠ wt_ga σ 288 k
/-- no piece stands twice on a page -/
def wt_PD (σ : wt_St) : Prop := ∀ g, g < 4 → ∀ k k' : Nat, k' < k → (k : Int) < (wt_ga σ 276 g).toInt → wt_ga σ (278 + g) k' ≠ wt_ga σ (278 + g) k
theorem wt_PD_fr {σ σ' : wt_St} {F : Nat → Nat → Prop} {A : Nat → Prop} (p : wt_PD σ) (f : wt_fr F A σ σ') (hA : ∀ i, i = 276 ∨ (278 ≤ i ∧ i < 282) → ¬ A i) : wt_PD σ' := fun g hg k k' h1 h2 => by
  rw [f.2 276 (hA 276 (Or.inl rfl))] at h2
  rw [f.2 (278 + g) (hA _ (Or.inr ⟨by omega, by omega⟩)), f.2 (278 + g) (hA _ (Or.inr ⟨by omega, by omega⟩))]
  exact p g hg k k' h1 h2
theorem wt_Ra0 {σ : wt_St} (h : wt_RI σ) (i : Nat) (h1 : 110 ≤ i) (h2 : i < 111) (j : Nat) : 0 ≤ (wt_ga σ i j).toInt ∧ (wt_ga σ i j).toInt ≤ 12 := wt_R_ga h 0 (q := (110, 111, 0, 12)) rfl i h1 h2 j
theorem wt_Rn0 {σ σ' : wt_St} {i j : Nat} {v : Int32} (h : wt_RI σ) (e : σ' = wt_sa σ i j v) (h1 : 110 ≤ i) (h2 : i < 111) (h3 : 0 ≤ v.toInt) (h4 : v.toInt ≤ 12) : wt_RI σ' := wt_RI_in h e 0 (q := (110, 111, 0, 12)) rfl h1 h2 h3 h4
theorem wt_Ra1 {σ : wt_St} (h : wt_RI σ) (i : Nat) (h1 : 111 ≤ i) (h2 : i < 112) (j : Nat) : 0 ≤ (wt_ga σ i j).toInt ∧ (wt_ga σ i j).toInt ≤ 13 := wt_R_ga h 1 (q := (111, 112, 0, 13)) rfl i h1 h2 j
theorem wt_Rn1 {σ σ' : wt_St} {i j : Nat} {v : Int32} (h : wt_RI σ) (e : σ' = wt_sa σ i j v) (h1 : 111 ≤ i) (h2 : i < 112) (h3 : 0 ≤ v.toInt) (h4 : v.toInt ≤ 13) : wt_RI σ' := wt_RI_in h e 1 (q := (111, 112, 0, 13)) rfl h1 h2 h3 h4
theorem wt_Ra2 {σ : wt_St} (h : wt_RI σ) (i : Nat) (h1 : 112 ≤ i) (h2 : i < 114) (j : Nat) : 0 ≤ (wt_ga σ i j).toInt ∧ (wt_ga σ i j).toInt ≤ 12 := wt_R_ga h 2 (q := (112, 114, 0, 12)) rfl i h1 h2 j
theorem wt_Rn2 {σ σ' : wt_St} {i j : Nat} {v : Int32} (h : wt_RI σ) (e : σ' = wt_sa σ i j v) (h1 : 112 ≤ i) (h2 : i < 114) (h3 : 0 ≤ v.toInt) (h4 : v.toInt ≤ 12) : wt_RI σ' := wt_RI_in h e 2 (q := (112, 114, 0, 12)) rfl h1 h2 h3 h4
theorem wt_Ra3 {σ : wt_St} (h : wt_RI σ) (i : Nat) (h1 : 120 ≤ i) (h2 : i < 122) (j : Nat) : 0 ≤ (wt_ga σ i j).toInt ∧ (wt_ga σ i j).toInt ≤ 400 := wt_R_ga h 3 (q := (120, 122, 0, 400)) rfl i h1 h2 j
theorem wt_Rn3 {σ σ' : wt_St} {i j : Nat} {v : Int32} (h : wt_RI σ) (e : σ' = wt_sa σ i j v) (h1 : 120 ≤ i) (h2 : i < 122) (h3 : 0 ≤ v.toInt) (h4 : v.toInt ≤ 400) : wt_RI σ' := wt_RI_in h e 3 (q := (120, 122, 0, 400)) rfl h1 h2 h3 h4
theorem wt_Ra4 {σ : wt_St} (h : wt_RI σ) (i : Nat) (h1 : 122 ≤ i) (h2 : i < 124) (j : Nat) : 0 ≤ (wt_ga σ i j).toInt ∧ (wt_ga σ i j).toInt ≤ 400 := wt_R_ga h 4 (q := (122, 124, 0, 400)) rfl i h1 h2 j
theorem wt_Rn4 {σ σ' : wt_St} {i j : Nat} {v : Int32} (h : wt_RI σ) (e : σ' = wt_sa σ i j v) (h1 : 122 ≤ i) (h2 : i < 124) (h3 : 0 ≤ v.toInt) (h4 : v.toInt ≤ 400) : wt_RI σ' := wt_RI_in h e 4 (q := (122, 124, 0, 400)) rfl h1 h2 h3 h4
theorem wt_Ra5 {σ : wt_St} (h : wt_RI σ) (i : Nat) (h1 : 125 ≤ i) (h2 : i < 127) (j : Nat) : 0 ≤ (wt_ga σ i j).toInt ∧ (wt_ga σ i j).toInt ≤ 9 := wt_R_ga h 5 (q := (125, 127, 0, 9)) rfl i h1 h2 j
theorem wt_Rn5 {σ σ' : wt_St} {i j : Nat} {v : Int32} (h : wt_RI σ) (e : σ' = wt_sa σ i j v) (h1 : 125 ≤ i) (h2 : i < 127) (h3 : 0 ≤ v.toInt) (h4 : v.toInt ≤ 9) : wt_RI σ' := wt_RI_in h e 5 (q := (125, 127, 0, 9)) rfl h1 h2 h3 h4
theorem wt_Ra6 {σ : wt_St} (h : wt_RI σ) (i : Nat) (h1 : 127 ≤ i) (h2 : i < 129) (j : Nat) : 0 ≤ (wt_ga σ i j).toInt ∧ (wt_ga σ i j).toInt ≤ 3 := wt_R_ga h 6 (q := (127, 129, 0, 3)) rfl i h1 h2 j
theorem wt_Rn6 {σ σ' : wt_St} {i j : Nat} {v : Int32} (h : wt_RI σ) (e : σ' = wt_sa σ i j v) (h1 : 127 ≤ i) (h2 : i < 129) (h3 : 0 ≤ v.toInt) (h4 : v.toInt ≤ 3) : wt_RI σ' := wt_RI_in h e 6 (q := (127, 129, 0, 3)) rfl h1 h2 h3 h4
theorem wt_Ra7 {σ : wt_St} (h : wt_RI σ) (i : Nat) (h1 : 132 ≤ i) (h2 : i < 192) (j : Nat) : 0 ≤ (wt_ga σ i j).toInt ∧ (wt_ga σ i j).toInt ≤ 25 := wt_R_ga h 7 (q := (132, 192, 0, 25)) rfl i h1 h2 j
theorem wt_Rn7 {σ σ' : wt_St} {i j : Nat} {v : Int32} (h : wt_RI σ) (e : σ' = wt_sa σ i j v) (h1 : 132 ≤ i) (h2 : i < 192) (h3 : 0 ≤ v.toInt) (h4 : v.toInt ≤ 25) : wt_RI σ' := wt_RI_in h e 7 (q := (132, 192, 0, 25)) rfl h1 h2 h3 h4
theorem wt_Ra8 {σ : wt_St} (h : wt_RI σ) (i : Nat) (h1 : 193 ≤ i) (h2 : i < 253) (j : Nat) : 0 ≤ (wt_ga σ i j).toInt ∧ (wt_ga σ i j).toInt ≤ 25 := wt_R_ga h 8 (q := (193, 253, 0, 25)) rfl i h1 h2 j
theorem wt_Rn8 {σ σ' : wt_St} {i j : Nat} {v : Int32} (h : wt_RI σ) (e : σ' = wt_sa σ i j v) (h1 : 193 ≤ i) (h2 : i < 253) (h3 : 0 ≤ v.toInt) (h4 : v.toInt ≤ 25) : wt_RI σ' := wt_RI_in h e 8 (q := (193, 253, 0, 25)) rfl h1 h2 h3 h4
theorem wt_Ra9 {σ : wt_St} (h : wt_RI σ) (i : Nat) (h1 : 253 ≤ i) (h2 : i < 254) (j : Nat) : 0 ≤ (wt_ga σ i j).toInt ∧ (wt_ga σ i j).toInt ≤ 12 := wt_R_ga h 9 (q := (253, 254, 0, 12)) rfl i h1 h2 j
theorem wt_Rn9 {σ σ' : wt_St} {i j : Nat} {v : Int32} (h : wt_RI σ) (e : σ' = wt_sa σ i j v) (h1 : 253 ≤ i) (h2 : i < 254) (h3 : 0 ≤ v.toInt) (h4 : v.toInt ≤ 12) : wt_RI σ' := wt_RI_in h e 9 (q := (253, 254, 0, 12)) rfl h1 h2 h3 h4
theorem wt_Ra10 {σ : wt_St} (h : wt_RI σ) (i : Nat) (h1 : 255 ≤ i) (h2 : i < 263) (j : Nat) : 0 ≤ (wt_ga σ i j).toInt ∧ (wt_ga σ i j).toInt ≤ 59 := wt_R_ga h 10 (q := (255, 263, 0, 59)) rfl i h1 h2 j
theorem wt_Rn10 {σ σ' : wt_St} {i j : Nat} {v : Int32} (h : wt_RI σ) (e : σ' = wt_sa σ i j v) (h1 : 255 ≤ i) (h2 : i < 263) (h3 : 0 ≤ v.toInt) (h4 : v.toInt ≤ 59) : wt_RI σ' := wt_RI_in h e 10 (q := (255, 263, 0, 59)) rfl h1 h2 h3 h4
theorem wt_Ra11 {σ : wt_St} (h : wt_RI σ) (i : Nat) (h1 : 274 ≤ i) (h2 : i < 275) (j : Nat) : 0 ≤ (wt_ga σ i j).toInt ∧ (wt_ga σ i j).toInt ≤ 59 := wt_R_ga h 11 (q := (274, 275, 0, 59)) rfl i h1 h2 j
theorem wt_Rn11 {σ σ' : wt_St} {i j : Nat} {v : Int32} (h : wt_RI σ) (e : σ' = wt_sa σ i j v) (h1 : 274 ≤ i) (h2 : i < 275) (h3 : 0 ≤ v.toInt) (h4 : v.toInt ≤ 59) : wt_RI σ' := wt_RI_in h e 11 (q := (274, 275, 0, 59)) rfl h1 h2 h3 h4
theorem wt_Ra12 {σ : wt_St} (h : wt_RI σ) (i : Nat) (h1 : 275 ≤ i) (h2 : i < 276) (j : Nat) : -1 ≤ (wt_ga σ i j).toInt ∧ (wt_ga σ i j).toInt ≤ 7 := wt_R_ga h 12 (q := (275, 276, -1, 7)) rfl i h1 h2 j
theorem wt_Rn12 {σ σ' : wt_St} {i j : Nat} {v : Int32} (h : wt_RI σ) (e : σ' = wt_sa σ i j v) (h1 : 275 ≤ i) (h2 : i < 276) (h3 : -1 ≤ v.toInt) (h4 : v.toInt ≤ 7) : wt_RI σ' := wt_RI_in h e 12 (q := (275, 276, -1, 7)) rfl h1 h2 h3 h4
theorem wt_Ra13 {σ : wt_St} (h : wt_RI σ) (i : Nat) (h1 : 276 ≤ i) (h2 : i < 277) (j : Nat) : 0 ≤ (wt_ga σ i j).toInt ∧ (wt_ga σ i j).toInt ≤ 108 := wt_R_ga h 13 (q := (276, 277, 0, 108)) rfl i h1 h2 j
theorem wt_Rn13 {σ σ' : wt_St} {i j : Nat} {v : Int32} (h : wt_RI σ) (e : σ' = wt_sa σ i j v) (h1 : 276 ≤ i) (h2 : i < 277) (h3 : 0 ≤ v.toInt) (h4 : v.toInt ≤ 108) : wt_RI σ' := wt_RI_in h e 13 (q := (276, 277, 0, 108)) rfl h1 h2 h3 h4
theorem wt_Ra14 {σ : wt_St} (h : wt_RI σ) (i : Nat) (h1 : 278 ≤ i) (h2 : i < 282) (j : Nat) : 0 ≤ (wt_ga σ i j).toInt ∧ (wt_ga σ i j).toInt ≤ 337 := wt_R_ga h 14 (q := (278, 282, 0, 337)) rfl i h1 h2 j
theorem wt_Rn14 {σ σ' : wt_St} {i j : Nat} {v : Int32} (h : wt_RI σ) (e : σ' = wt_sa σ i j v) (h1 : 278 ≤ i) (h2 : i < 282) (h3 : 0 ≤ v.toInt) (h4 : v.toInt ≤ 337) : wt_RI σ' := wt_RI_in h e 14 (q := (278, 282, 0, 337)) rfl h1 h2 h3 h4
theorem wt_Ra15 {σ : wt_St} (h : wt_RI σ) (i : Nat) (h1 : 288 ≤ i) (h2 : i < 289) (j : Nat) : 0 ≤ (wt_ga σ i j).toInt ∧ (wt_ga σ i j).toInt ≤ 337 := wt_R_ga h 15 (q := (288, 289, 0, 337)) rfl i h1 h2 j
theorem wt_Rn15 {σ σ' : wt_St} {i j : Nat} {v : Int32} (h : wt_RI σ) (e : σ' = wt_sa σ i j v) (h1 : 288 ≤ i) (h2 : i < 289) (h3 : 0 ≤ v.toInt) (h4 : v.toInt ≤ 337) : wt_RI σ' := wt_RI_in h e 15 (q := (288, 289, 0, 337)) rfl h1 h2 h3 h4
theorem wt_Ra16 {σ : wt_St} (h : wt_RI σ) (i : Nat) (h1 : 319 ≤ i) (h2 : i < 320) (j : Nat) : 0 ≤ (wt_ga σ i j).toInt ∧ (wt_ga σ i j).toInt ≤ 59 := wt_R_ga h 16 (q := (319, 320, 0, 59)) rfl i h1 h2 j
theorem wt_Rn16 {σ σ' : wt_St} {i j : Nat} {v : Int32} (h : wt_RI σ) (e : σ' = wt_sa σ i j v) (h1 : 319 ≤ i) (h2 : i < 320) (h3 : 0 ≤ v.toInt) (h4 : v.toInt ≤ 59) : wt_RI σ' := wt_RI_in h e 16 (q := (319, 320, 0, 59)) rfl h1 h2 h3 h4
theorem wt_Ra17 {σ : wt_St} (h : wt_RI σ) (i : Nat) (h1 : 286 ≤ i) (h2 : i < 287) (j : Nat) : 0 ≤ (wt_ga σ i j).toInt ∧ (wt_ga σ i j).toInt ≤ 400 := wt_R_ga h 17 (q := (286, 287, 0, 400)) rfl i h1 h2 j
theorem wt_Rn17 {σ σ' : wt_St} {i j : Nat} {v : Int32} (h : wt_RI σ) (e : σ' = wt_sa σ i j v) (h1 : 286 ≤ i) (h2 : i < 287) (h3 : 0 ≤ v.toInt) (h4 : v.toInt ≤ 400) : wt_RI σ' := wt_RI_in h e 17 (q := (286, 287, 0, 400)) rfl h1 h2 h3 h4
theorem wt_Ra18 {σ : wt_St} (h : wt_RI σ) (i : Nat) (h1 : 114 ≤ i) (h2 : i < 116) (j : Nat) : 0 ≤ (wt_ga σ i j).toInt ∧ (wt_ga σ i j).toInt ≤ 99 := wt_R_ga h 18 (q := (114, 116, 0, 99)) rfl i h1 h2 j
theorem wt_Rn18 {σ σ' : wt_St} {i j : Nat} {v : Int32} (h : wt_RI σ) (e : σ' = wt_sa σ i j v) (h1 : 114 ≤ i) (h2 : i < 116) (h3 : 0 ≤ v.toInt) (h4 : v.toInt ≤ 99) : wt_RI σ' := wt_RI_in h e 18 (q := (114, 116, 0, 99)) rfl h1 h2 h3 h4
theorem wt_Rf0 {σ : wt_St} (h : wt_RI σ) : 0 ≤ (wt_gf σ 108 1).toInt ∧ (wt_gf σ 108 1).toInt ≤ 500 := wt_R_gf h 0 (q := (1, 0, 500)) rfl
theorem wt_Rm0 {σ σ' : wt_St} {v : Int32} (h : wt_RI σ) (e : σ' = wt_sf σ 108 1 v) (h3 : 0 ≤ v.toInt) (h4 : v.toInt ≤ 500) : wt_RI σ' := wt_RI_fin h e 0 (q := (1, 0, 500)) rfl rfl h3 h4
theorem wt_Rf1 {σ : wt_St} (h : wt_RI σ) : 0 ≤ (wt_gf σ 108 2).toInt ∧ (wt_gf σ 108 2).toInt ≤ 500 := wt_R_gf h 1 (q := (2, 0, 500)) rfl
theorem wt_Rm1 {σ σ' : wt_St} {v : Int32} (h : wt_RI σ) (e : σ' = wt_sf σ 108 2 v) (h3 : 0 ≤ v.toInt) (h4 : v.toInt ≤ 500) : wt_RI σ' := wt_RI_fin h e 1 (q := (2, 0, 500)) rfl rfl h3 h4
theorem wt_Rf2 {σ : wt_St} (h : wt_RI σ) : 0 ≤ (wt_gf σ 108 4).toInt ∧ (wt_gf σ 108 4).toInt ≤ 500 := wt_R_gf h 2 (q := (4, 0, 500)) rfl
theorem wt_Rm2 {σ σ' : wt_St} {v : Int32} (h : wt_RI σ) (e : σ' = wt_sf σ 108 4 v) (h3 : 0 ≤ v.toInt) (h4 : v.toInt ≤ 500) : wt_RI σ' := wt_RI_fin h e 2 (q := (4, 0, 500)) rfl rfl h3 h4
theorem wt_Rf3 {σ : wt_St} (h : wt_RI σ) : 0 ≤ (wt_gf σ 108 5).toInt ∧ (wt_gf σ 108 5).toInt ≤ 3 := wt_R_gf h 3 (q := (5, 0, 3)) rfl
theorem wt_Rm3 {σ σ' : wt_St} {v : Int32} (h : wt_RI σ) (e : σ' = wt_sf σ 108 5 v) (h3 : 0 ≤ v.toInt) (h4 : v.toInt ≤ 3) : wt_RI σ' := wt_RI_fin h e 3 (q := (5, 0, 3)) rfl rfl h3 h4
theorem wt_Rf4 {σ : wt_St} (h : wt_RI σ) : 0 ≤ (wt_gf σ 108 7).toInt ∧ (wt_gf σ 108 7).toInt ≤ 60 := wt_R_gf h 4 (q := (7, 0, 60)) rfl
theorem wt_Rm4 {σ σ' : wt_St} {v : Int32} (h : wt_RI σ) (e : σ' = wt_sf σ 108 7 v) (h3 : 0 ≤ v.toInt) (h4 : v.toInt ≤ 60) : wt_RI σ' := wt_RI_fin h e 4 (q := (7, 0, 60)) rfl rfl h3 h4
theorem wt_Rf5 {σ : wt_St} (h : wt_RI σ) : 0 ≤ (wt_gf σ 108 27).toInt ∧ (wt_gf σ 108 27).toInt ≤ 60 := wt_R_gf h 5 (q := (27, 0, 60)) rfl
theorem wt_Rm5 {σ σ' : wt_St} {v : Int32} (h : wt_RI σ) (e : σ' = wt_sf σ 108 27 v) (h3 : 0 ≤ v.toInt) (h4 : v.toInt ≤ 60) : wt_RI σ' := wt_RI_fin h e 5 (q := (27, 0, 60)) rfl rfl h3 h4
theorem wt_Rf6 {σ : wt_St} (h : wt_RI σ) : 0 ≤ (wt_gf σ 108 28).toInt ∧ (wt_gf σ 108 28).toInt ≤ 60 := wt_R_gf h 6 (q := (28, 0, 60)) rfl
theorem wt_Rm6 {σ σ' : wt_St} {v : Int32} (h : wt_RI σ) (e : σ' = wt_sf σ 108 28 v) (h3 : 0 ≤ v.toInt) (h4 : v.toInt ≤ 60) : wt_RI σ' := wt_RI_fin h e 6 (q := (28, 0, 60)) rfl rfl h3 h4
theorem wt_Rf7 {σ : wt_St} (h : wt_RI σ) : 0 ≤ (wt_gf σ 108 39).toInt ∧ (wt_gf σ 108 39).toInt ≤ 8 := wt_R_gf h 7 (q := (39, 0, 8)) rfl
theorem wt_Rm7 {σ σ' : wt_St} {v : Int32} (h : wt_RI σ) (e : σ' = wt_sf σ 108 39 v) (h3 : 0 ≤ v.toInt) (h4 : v.toInt ≤ 8) : wt_RI σ' := wt_RI_fin h e 7 (q := (39, 0, 8)) rfl rfl h3 h4
theorem wt_Rf8 {σ : wt_St} (h : wt_RI σ) : 0 ≤ (wt_gf σ 108 40).toInt ∧ (wt_gf σ 108 40).toInt ≤ 10 := wt_R_gf h 8 (q := (40, 0, 10)) rfl
theorem wt_Rm8 {σ σ' : wt_St} {v : Int32} (h : wt_RI σ) (e : σ' = wt_sf σ 108 40 v) (h3 : 0 ≤ v.toInt) (h4 : v.toInt ≤ 10) : wt_RI σ' := wt_RI_fin h e 8 (q := (40, 0, 10)) rfl rfl h3 h4
theorem wt_Rf9 {σ : wt_St} (h : wt_RI σ) : 0 ≤ (wt_gf σ 108 41).toInt ∧ (wt_gf σ 108 41).toInt ≤ 3 := wt_R_gf h 9 (q := (41, 0, 3)) rfl
theorem wt_Rm9 {σ σ' : wt_St} {v : Int32} (h : wt_RI σ) (e : σ' = wt_sf σ 108 41 v) (h3 : 0 ≤ v.toInt) (h4 : v.toInt ≤ 3) : wt_RI σ' := wt_RI_fin h e 9 (q := (41, 0, 3)) rfl rfl h3 h4
theorem wt_Rf10 {σ : wt_St} (h : wt_RI σ) : 0 ≤ (wt_gf σ 108 54).toInt ∧ (wt_gf σ 108 54).toInt ≤ 108 := wt_R_gf h 10 (q := (54, 0, 108)) rfl
theorem wt_Rm10 {σ σ' : wt_St} {v : Int32} (h : wt_RI σ) (e : σ' = wt_sf σ 108 54 v) (h3 : 0 ≤ v.toInt) (h4 : v.toInt ≤ 108) : wt_RI σ' := wt_RI_fin h e 10 (q := (54, 0, 108)) rfl rfl h3 h4
end WTQ2
