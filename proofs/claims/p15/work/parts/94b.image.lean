theorem wu_SS_cp {s s' : wt_St} {b b' : Nat} {mn : Nat → Int32} {T : Int} {Lf On Pt Pm : Nat → Int32} {Pc Wt : Nat → Nat → Int32} {Wn Hb : Int32} (h : wu_SS s b mn T Lf On Pt Pm Pc Wt Wn Hb) (hm : ∀ l, (mn l).toInt ≤ 12) (e3 : ∀ i, 0 < i → i < 4 → ∀ j, j < 312 → wt_ga s' (b' + i) j = wt_ga s (b + i) j) (e4 : ∀ j, j < 4 → wt_ga s' (b' + 4) j = wt_ga s (b + 4) j) (e8 : ∀ i, 4 < i → i < 9 → ∀ j, j < 10 → wt_ga s' (b' + i) j = wt_ga s (b + i) j) (g8 : wt_gf s' b' 8 = wt_gf s b 8) (g9 : wt_gf s' b' 9 = wt_gf s b 9) : wu_SS s' b' mn T Lf On Pt Pm Pc Wt Wn Hb := by
  obtain ⟨h1, h2, h3, h4⟩ := h
  refine ⟨by rw [g9]; exact h1, ?_, fun l hl => ?_, fun g hg => ?_⟩
  · rw [g8]
    refine ⟨h2.1, h2.2.1, fun k hk => ?_⟩
    have hb := h2.2.1
    rw [e8 5 (by omega) (by omega) k (by omega), e8 6 (by omega) (by omega) k (by omega), e8 7 (by omega) (by omega) k (by omega), e8 8 (by omega) (by omega) k (by omega)]
    exact h2.2.2 k hk
  · have m12 := hm l
    refine ⟨fun i hi => ?_, fun i hi hj => ?_⟩
    · rw [e3 1 (by omega) (by omega) (12 * l + i) (by omega), e3 2 (by omega) (by omega) (12 * l + i) (by omega)]
      exact (h3 l hl).1 i hi
    · rw [e3 2 (by omega) (by omega) (12 * l + i) (by omega)]
      exact (h3 l hl).2 i hi hj
  · rw [e4 g hg]
    obtain ⟨p1, p2⟩ := h4 g hg
    refine ⟨p1, fun hne => ⟨fun k hk => ?_, (p2 hne).2⟩⟩
    obtain ⟨l, i, l1, l2, l3, l4, l5⟩ := (p2 hne).1 k hk
    have m12 := hm l
    exact ⟨l, i, l1, l2, l3, l4, by rw [e3 3 (by omega) (by omega) (12 * l + i) (by omega)]; exact l5⟩
theorem wu_SS_rf {s : wt_St} {b : Nat} {mn mn' : Nat → Int32} {T T' : Int} {Lf On Pt Pm Lf' On' Pt' Pm' : Nat → Int32} {Pc Wt Pc' Wt' : Nat → Nat → Int32} {Wn Hb Wn' Hb' : Int32} (h : wu_SS s b mn T Lf On Pt Pm Pc Wt Wn Hb) (hm : ∀ l, (mn l).toInt ≤ 12) (hp : ∀ g, g < 4 → (Pm g).toInt ≤ 108) (em : ∀ l, mn' l = mn l) (eT : T ≤ T') (eL : ∀ c, c < 338 → Lf' c = Lf c) (eO : ∀ c, c < 338 → On' c = On c) (eP : ∀ g, g < 4 → Pt' g = Pt g) (eM : ∀ g, g < 4 → Pm' g = Pm g) (eC : ∀ g, g < 4 → ∀ k, k < 108 → Pc' g k = Pc g k) (eW : ∀ w, w < 10 → ∀ j, j < 4 → Wt' w j = Wt w j) (en : Wn' = Wn) (eh : Hb' = Hb) : wu_SS s b mn' T' Lf' On' Pt' Pm' Pc' Wt' Wn' Hb' := by
  have em' : mn' = mn := funext em
  subst em'
  subst en
  subst eh
  obtain ⟨h1, h2, h3, h4⟩ := h
  refine ⟨h1, wu_SW_le (T := T) ⟨h2.1, h2.2.1, fun k hk => ?_⟩ eT, fun l hl => ⟨fun i hi => ?_, (h3 l hl).2⟩, fun g hg => ?_⟩
  · have hb := h2.2.1
    rw [eW k (by omega) 0 (by omega), eW k (by omega) 1 (by omega), eW k (by omega) 2 (by omega), eW k (by omega) 3 (by omega)]
    exact h2.2.2 k hk
  · have m12 := hm l
    obtain ⟨a, b, c⟩ := (h3 l hl).1 i hi
    rw [eL _ (by omega), eO _ (by omega)]
    refine ⟨a, b, c.imp (fun h => h) (fun h => ?_)⟩
    obtain ⟨g, g1, g2, g3⟩ := h
    exact ⟨g, g1, g2, by rw [eP g g1]; exact g3⟩
  · rw [eP g hg, eM g hg]
    obtain ⟨p1, p2⟩ := h4 g hg
    have p108 := hp g hg
    refine ⟨p1, fun hne => ⟨fun k hk => ?_, fun l i hl hi ho => ?_⟩⟩
    · obtain ⟨l, i, l1, l2, l3, l4, l5⟩ := (p2 hne).1 k hk
      have m12 := hm l
      refine ⟨l, i, l1, l2, by rw [eC g hg k (by omega)]; exact l3, by rw [eO _ (by omega)]; exact l4, ?_⟩
      rw [l5]
      exact (wt_ct_congr k (fun k' hk' => by show (Pc g k').toInt / 13 = (Pc' g k').toInt / 13; rw [eC g hg k' (by omega)]))
    · have m12 := hm l
      rw [eO _ (by omega)] at ho
      obtain ⟨k, k1, k2⟩ := (p2 hne).2 l i hl hi ho
      exact ⟨k, k1, by rw [eC g hg k (by omega)]; exact k2⟩
set_option maxHeartbeats 4000000 in
theorem wh_stbecome (n : Nat) {t0 t1 : Nat} {σ : wt_St} (hd : t0 + 8 < t1 ∨ t1 + 8 < t0) (hl : ∀ i, 0 < i → i < 9 → wt_ln (t0 + i) = wt_ln (t1 + i)) (l3 : ∀ i, 0 < i → i < 4 → wt_ln (t1 + i) = 312) (l4 : wt_ln (t1 + 4) = 4) (l8 : ∀ i, 4 < i → i < 9 → wt_ln (t1 + i) = 10) : wt_H (wp_st_become n t0 t1 σ) (fun q => wt_fr (fun i k => i = t0 ∧ (k = 8 ∨ k = 9)) (fun i => t0 < i ∧ i < t0 + 9) σ q ∧ (∀ i, 0 < i → i < 4 → ∀ j, j < 312 → wt_ga q (t0 + i) j = wt_ga σ (t1 + i) j) ∧ (∀ j, j < 4 → wt_ga q (t0 + 4) j = wt_ga σ (t1 + 4) j) ∧ (∀ i, 4 < i → i < 9 → ∀ j, j < 10 → wt_ga q (t0 + i) j = wt_ga σ (t1 + i) j) ∧ wt_gf q t0 8 = wt_gf σ t1 8 ∧ wt_gf q t0 9 = wt_gf σ t1 9) := by
  unfold wp_st_become
  refine wt_H_bh (wh_copyRow n (a := t1 + 1) (b := t0 + 1) (by omega) (hl 1 (by omega) (by omega))) (fun q1 h1 => ?_)
  refine wt_H_bh (wh_copyRow n (a := t1 + 2) (b := t0 + 2) (by omega) (hl 2 (by omega) (by omega))) (fun q2 h2 => ?_)
  refine wt_H_bh (wh_copyRow n (a := t1 + 3) (b := t0 + 3) (by omega) (hl 3 (by omega) (by omega))) (fun q3 h3 => ?_)
  refine wt_H_bh (wh_copyRow n (a := t1 + 4) (b := t0 + 4) (by omega) (hl 4 (by omega) (by omega))) (fun q4 h4 => ?_)
  refine wt_H_bh (wh_copyRow n (a := t1 + 5) (b := t0 + 5) (by omega) (hl 5 (by omega) (by omega))) (fun q5 h5 => ?_)
  refine wt_H_bh (wh_copyRow n (a := t1 + 6) (b := t0 + 6) (by omega) (hl 6 (by omega) (by omega))) (fun q6 h6 => ?_)
  refine wt_H_bh (wh_copyRow n (a := t1 + 7) (b := t0 + 7) (by omega) (hl 7 (by omega) (by omega))) (fun q7 h7 => ?_)
  refine wt_H_bh (wh_copyRow n (a := t1 + 8) (b := t0 + 8) (by omega) (hl 8 (by omega) (by omega))) (fun q8 h8 => ?_)
  obtain ⟨f1, c1⟩ := h1
  obtain ⟨f2, c2⟩ := h2
  obtain ⟨f3, c3⟩ := h3
  obtain ⟨f4, c4⟩ := h4
  obtain ⟨f5, c5⟩ := h5
  obtain ⟨f6, c6⟩ := h6
  obtain ⟨f7, c7⟩ := h7
  obtain ⟨f8, c8⟩ := h8
  rw [l3 1 (by omega) (by omega)] at c1
  rw [l3 2 (by omega) (by omega)] at c2
  rw [l3 3 (by omega) (by omega)] at c3
  rw [l4] at c4
  rw [l8 5 (by omega) (by omega)] at c5
  rw [l8 6 (by omega) (by omega)] at c6
  rw [l8 7 (by omega) (by omega)] at c7
  rw [l8 8 (by omega) (by omega)] at c8
  obtain ⟨q9, ε9⟩ : ∃ o : wt_St, o = wt_sf q8 t0 8 (wt_gf q8 t1 8) := ⟨_, rfl⟩
  rw [← ε9]
  obtain ⟨q10, ε10⟩ : ∃ o : wt_St, o = wt_sf q9 t0 9 (wt_gf q9 t1 9) := ⟨_, rfl⟩
  rw [← ε10]
  have f9 := wt_fr_sf ε9
  have f10 := wt_fr_sf ε10
  have W : ∀ {b : Nat} {s s' : wt_St}, wt_fr (fun _ _ => False) (fun i => i = b) s s' → t0 < b → b < t0 + 9 → wt_fr (fun i k => i = t0 ∧ (k = 8 ∨ k = 9)) (fun i => t0 < i ∧ i < t0 + 9) s s' := fun f h1 h2 => wt_frw f (fun i k h => h.elim) (fun i h => by (try dsimp only at h); omega)
  have T : ∀ {s s' s'' : wt_St}, wt_fr (fun i k => i = t0 ∧ (k = 8 ∨ k = 9)) (fun i => t0 < i ∧ i < t0 + 9) s s' → wt_fr (fun i k => i = t0 ∧ (k = 8 ∨ k = 9)) (fun i => t0 < i ∧ i < t0 + 9) s' s'' → wt_fr (fun i k => i = t0 ∧ (k = 8 ∨ k = 9)) (fun i => t0 < i ∧ i < t0 + 9) s s'' := fun f g => wt_fr.tr f g (fun i k h => h) (fun i h => h)
  have w1 := W f1 (by omega) (by omega)
  have w2 := T w1 (W f2 (by omega) (by omega))
  have w3 := T w2 (W f3 (by omega) (by omega))
  have w4 := T w3 (W f4 (by omega) (by omega))
  have w5 := T w4 (W f5 (by omega) (by omega))
  have w6 := T w5 (W f6 (by omega) (by omega))
  have w7 := T w6 (W f7 (by omega) (by omega))
  have w8 := T w7 (W f8 (by omega) (by omega))
  have w10 := (w8.sf ε9 ⟨rfl, Or.inl rfl⟩).sf ε10 ⟨rfl, Or.inr rfl⟩
  have tail : ∀ i j, wt_ga q10 i j = wt_ga q8 i j := fun i j => by rw [f10.2 i (fun h => h), f9.2 i (fun h => h)]
  have keep : ∀ {s s' : wt_St} {b : Nat}, wt_fr (fun _ _ => False) (fun i => i = b) s s' → ∀ i, i ≠ b → ∀ j, wt_ga s' i j = wt_ga s i j := fun f i hi j => f.2 i hi j
  refine wt_H_some ⟨w10, fun i a b j hj => ?_, fun j hj => ?_, fun i a b j hj => ?_, ?_, ?_⟩
  · rw [tail]
    rcases (show i = 1 ∨ i = 2 ∨ i = 3 by omega) with h | h | h <;> subst h
    · rw [keep f8 _ (by omega), keep f7 _ (by omega), keep f6 _ (by omega), keep f5 _ (by omega), keep f4 _ (by omega), keep f3 _ (by omega), keep f2 _ (by omega), c1 j hj]
    · rw [keep f8 _ (by omega), keep f7 _ (by omega), keep f6 _ (by omega), keep f5 _ (by omega), keep f4 _ (by omega), keep f3 _ (by omega), c2 j hj]
      exact w1.2 _ (by (try dsimp only); omega) j
    · rw [keep f8 _ (by omega), keep f7 _ (by omega), keep f6 _ (by omega), keep f5 _ (by omega), keep f4 _ (by omega), c3 j hj]
      exact w2.2 _ (by (try dsimp only); omega) j
  · rw [tail, keep f8 _ (by omega), keep f7 _ (by omega), keep f6 _ (by omega), keep f5 _ (by omega), c4 j hj]
    exact w3.2 _ (by (try dsimp only); omega) j
  · rw [tail]
    rcases (show i = 5 ∨ i = 6 ∨ i = 7 ∨ i = 8 by omega) with h | h | h | h <;> subst h
    · rw [keep f8 _ (by omega), keep f7 _ (by omega), keep f6 _ (by omega), c5 j hj]
      exact w4.2 _ (by (try dsimp only); omega) j
    · rw [keep f8 _ (by omega), keep f7 _ (by omega), c6 j hj]
      exact w5.2 _ (by (try dsimp only); omega) j
    · rw [keep f8 _ (by omega), c7 j hj]
      exact w6.2 _ (by (try dsimp only); omega) j
    · rw [c8 j hj]
      exact w7.2 _ (by (try dsimp only); omega) j
  · rw [f10.1 t0 8 (by (try dsimp only); omega), wt_v_sf ε9]
    exact w8.1 t1 8 (by (try dsimp only); omega)
  · rw [wt_v_sf ε10, f9.1 t1 9 (by (try dsimp only); omega)]
    exact w8.1 t1 9 (by (try dsimp only); omega)
theorem wt_lnS (b : Nat) (hb : b = 39 ∨ b = 49 ∨ b = 58 ∨ b = 67) : (∀ i, 0 < i → i < 4 → wt_ln (b + i) = 312) ∧ wt_ln (b + 4) = 4 ∧ ∀ i, 4 < i → i < 9 → wt_ln (b + i) = 10 := by
  rcases hb with h | h | h | h <;> subst h <;> refine ⟨fun i a b => ?_, by decide, fun i a b => ?_⟩
  all_goals first
    | (rcases (show i = 1 ∨ i = 2 ∨ i = 3 by omega) with h | h | h <;> subst h <;> decide)
    | (rcases (show i = 5 ∨ i = 6 ∨ i = 7 ∨ i = 8 by omega) with h | h | h | h <;> subst h <;> decide)
theorem wh_stbecome2 (n : Nat) {t0 t1 : Nat} {σ : wt_St} (h0 : t0 = 39 ∨ t0 = 49 ∨ t0 = 58 ∨ t0 = 67) (h1 : t1 = 39 ∨ t1 = 49 ∨ t1 = 58 ∨ t1 = 67) (hne : t0 ≠ t1) : wt_H (wp_st_become n t0 t1 σ) (fun q => wt_fr (fun i k => i = t0 ∧ (k = 8 ∨ k = 9)) (fun i => t0 < i ∧ i < t0 + 9) σ q ∧ (∀ i, 0 < i → i < 4 → ∀ j, j < 312 → wt_ga q (t0 + i) j = wt_ga σ (t1 + i) j) ∧ (∀ j, j < 4 → wt_ga q (t0 + 4) j = wt_ga σ (t1 + 4) j) ∧ (∀ i, 4 < i → i < 9 → ∀ j, j < 10 → wt_ga q (t0 + i) j = wt_ga σ (t1 + i) j) ∧ wt_gf q t0 8 = wt_gf σ t1 8 ∧ wt_gf q t0 9 = wt_gf σ t1 9) := by
  obtain ⟨a1, a2, a3⟩ := wt_lnS t0 h0
  obtain ⟨b1, b2, b3⟩ := wt_lnS t1 h1
  refine wh_stbecome n (by omega) (fun i p q => ?_) b1 b2 b3
  by_cases h : i < 4
  · rw [a1 i p h, b1 i p h]
  · by_cases h4 : i = 4
    · rw [h4, a2, b2]
    · rw [a3 i (by omega) q, b3 i (by omega) q]
