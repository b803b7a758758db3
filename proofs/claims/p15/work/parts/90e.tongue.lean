set_option maxRecDepth 100000 in
set_option maxHeartbeats 8000000 in
/-- a tongue is read on both sides: the same fault, or the same words -/
theorem wr_tongueLoop (n m m' : Nat) (hn : 4294967297 < n) {β : Nat → Int32} {e k j : Nat} {s z : wt_St} (tv : wt_tv β e k s) (r : wt_run β e wt_bl k j) (rv : wt_rv β e j z) (h0 : wt_gf z 108 5 = 0) (gr : wt_gr 0 0 0 s z) : wt_HH (wt_it (wp_tg_fill_B12 n 27) m ((0 : Int32), s)) (wt_it (wt_tL n) m' z) (fun q y => (q.1 = 0 ∧ wt_ft q.2 y) ∨ (q.1 = 1 ∧ wt_gf y 108 5 = 0 ∧ ∃ W G, wt_gr W 0 G q.2 y)) := by
  have k0 : (0 : Int32).toInt = 0 := by decide
  have k20 : (20 : Int32).toInt = 20 := by decide
  refine wt_HH_itJ (fun (t : Int32 × wt_St) (y : wt_St) => ∃ W G : Nat, t.1.toInt = (G : Int) ∧ G ≤ 20 ∧ ∃ k j, wt_tv β e k t.2 ∧ wt_run β e wt_bl k j ∧ wt_rv β e j y ∧ wt_gf y 108 5 = 0 ∧ wt_gr W 0 G t.2 y) (fun y => ¬ wt_gf y 108 5 = 0) (fun s y => y = s) (fun a b h => wt_tL_f n a b h) (fun K K' t y I hK hJ => ?_) m m' _ _ ⟨0, 0, by show ((0 : Int32)).toInt = _; omega, by omega, k, j, tv, r, rv, h0, gr⟩
  obtain ⟨W, G, i1, i2, k, j, tv, r, rv, h0, gr⟩ := I
  unfold wp_tg_fill_B12 wt_tL
  rw [if_neg (fun c => by have := wt_clt c; omega), if_pos h0]
  refine wt_HH_l (wh_over n hn tv) (fun q3 h3 => ?_)
  obtain ⟨j', r', tv', st', fr', hc⟩ := h3
  have ej : j' = j := wt_run_u r' r
  rw [ej] at tv' hc
  have gr' : wt_gr W 0 G q3.2 y := wt_gr_lxc _ _ _ _ gr (wt_frw fr' (fun i k h => h) (fun i h => h.elim)) wt_fr.rf
  have t2 := rv.2.1
  have t3 := rv.2.2.1
  rcases hc with ⟨c1, c2⟩ | ⟨c1, c2⟩
  · rw [if_pos c1, if_neg (fun c => by have := wt_cle c; omega)]
    unfold wp_tg_fillGroup
    refine wt_HH_b (wr_groupLoop n hn gr'.1.1 n n 0 j (0 : Int32) q3.2 y (by omega) (by omega) (fun h => absurd h (by omega)) tv' rv h0 gr') (fun a b hab => ?_)
    rcases hab with ⟨a1, f, p, hf, hfl, hfr⟩ | ⟨a1, ⟨W', k2, tv2, rv2, h02, gr2⟩, hlt⟩
    · rw [if_pos a1]
      refine wt_HH_r (wh_blanksF n) (fun w hw => ?_)
      have hw5 := wt_frt_fr hfr hw (by (try dsimp only); omega) (by (try dsimp only); omega)
      refine wt_HH_of (P := fun q => q = ((0 : Int32), a.2)) (P' := fun y => y = w) (wt_H_some rfl) ?_ (fun q y hq hy => Or.inl ⟨by rw [hq], f, p, hf, by rw [hq]; exact hfl, by rw [hy]; exact hw5⟩)
      exact hJ w (wt_frt_nz hw5 hf)
    · rw [if_neg (by rw [a1]; decide)]
      refine wt_HH_r (wh_blanks n rv2) (fun w hw => ?_)
      obtain ⟨j3, r3, rv3, fr3⟩ := hw
      have ei := wt_i1 (c := t.1) (by omega)
      exact hK ((t.1 + (1 : Int32)), a.2) w ⟨W', G + 1, by show (t.1 + (1 : Int32)).toInt = _; omega, by omega, k2, j3, tv2, r3, rv3, (fr3.1 108 5 (by (try dsimp only); omega)).trans h02, wt_gr_lxc _ _ _ _ gr2 wt_fr.rf fr3⟩
  · rw [if_neg (by rw [c1]; decide), if_pos (Int32.le_iff_toInt_le.mpr (by omega))]
    exact wt_HH_some (Or.inr ⟨rfl, h0, W, G, gr'⟩)
set_option maxHeartbeats 4000000 in
theorem wh_tgbecome (n : Nat) {σ : wt_St} : wt_H (wp_tg_become n 20 27 σ) (fun q => wt_fr (fun i k => i = 20 ∧ (k = 6 ∨ k = 7)) (fun i => 20 < i ∧ i < 27) σ q ∧ (∀ j, j < 540 → wt_ga q 21 j = wt_ga σ 28 j) ∧ (∀ i, 22 ≤ i → i < 25 → ∀ j, j < 60 → wt_ga q i j = wt_ga σ (i + 7) j) ∧ (∀ i, 25 ≤ i → i < 27 → ∀ j, j < 20 → wt_ga q i j = wt_ga σ (i + 7) j) ∧ wt_gf q 20 6 = wt_gf σ 27 6 ∧ wt_gf q 20 7 = wt_gf σ 27 7) := by
  unfold wp_tg_become
  refine wt_H_bh (wh_copyRow n (a := 28) (b := 21) (by decide) (by decide)) (fun q1 h1 => ?_)
  refine wt_H_bh (wh_copyRow n (a := 29) (b := 22) (by decide) (by decide)) (fun q2 h2 => ?_)
  refine wt_H_bh (wh_copyRow n (a := 30) (b := 23) (by decide) (by decide)) (fun q3 h3 => ?_)
  refine wt_H_bh (wh_copyRow n (a := 31) (b := 24) (by decide) (by decide)) (fun q4 h4 => ?_)
  refine wt_H_bh (wh_copyRow n (a := 32) (b := 25) (by decide) (by decide)) (fun q5 h5 => ?_)
  refine wt_H_bh (wh_copyRow n (a := 33) (b := 26) (by decide) (by decide)) (fun q6 h6 => ?_)
  have e1 : wt_ln 28 = 540 := by decide
  have e2 : wt_ln 29 = 60 := by decide
  have e3 : wt_ln 30 = 60 := by decide
  have e4 : wt_ln 31 = 60 := by decide
  have e5 : wt_ln 32 = 20 := by decide
  have e6 : wt_ln 33 = 20 := by decide
  obtain ⟨f1, h1⟩ := h1
  obtain ⟨f2, h2⟩ := h2
  obtain ⟨f3, h3⟩ := h3
  obtain ⟨f4, h4⟩ := h4
  obtain ⟨f5, h5⟩ := h5
  obtain ⟨f6, h6⟩ := h6
  rw [e1] at h1
  rw [e2] at h2
  rw [e3] at h3
  rw [e4] at h4
  rw [e5] at h5
  rw [e6] at h6
  obtain ⟨q7, ε7⟩ : ∃ o : wt_St, o = wt_sf q6 20 6 (wt_gf q6 27 6) := ⟨_, rfl⟩
  rw [← ε7]
  obtain ⟨q8, ε8⟩ : ∃ o : wt_St, o = wt_sf q7 20 7 (wt_gf q7 27 7) := ⟨_, rfl⟩
  rw [← ε8]
  have f7 := wt_fr_sf ε7
  have f8 := wt_fr_sf ε8
  have W : ∀ {b : Nat} {s s' : wt_St}, wt_fr (fun _ _ => False) (fun i => i = b) s s' → 20 < b → b < 27 → wt_fr (fun i k => i = 20 ∧ (k = 6 ∨ k = 7)) (fun i => 20 < i ∧ i < 27) s s' := fun f h1 h2 => wt_frw f (fun i k h => h.elim) (fun i h => by (try dsimp only at h); omega)
  have T : ∀ {s s' s'' : wt_St}, wt_fr (fun i k => i = 20 ∧ (k = 6 ∨ k = 7)) (fun i => 20 < i ∧ i < 27) s s' → wt_fr (fun i k => i = 20 ∧ (k = 6 ∨ k = 7)) (fun i => 20 < i ∧ i < 27) s' s'' → wt_fr (fun i k => i = 20 ∧ (k = 6 ∨ k = 7)) (fun i => 20 < i ∧ i < 27) s s'' := fun f g => wt_fr.tr f g (fun i k h => h) (fun i h => h)
  have T6 := T (T (T (T (T (W f1 (by omega) (by omega)) (W f2 (by omega) (by omega))) (W f3 (by omega) (by omega))) (W f4 (by omega) (by omega))) (W f5 (by omega) (by omega))) (W f6 (by omega) (by omega))
  have T8 := (T6.sf ε7 (by first | decide | ((try dsimp only); omega))).sf ε8 (by first | decide | ((try dsimp only); omega))
  refine wt_H_some ⟨T8, fun j hj => ?_, fun i a b j hj => ?_, fun i a b j hj => ?_, ?_, ?_⟩
  · rw [f8.2 21 (fun h => h), f7.2 21 (fun h => h), f6.2 21 (by decide), f5.2 21 (by decide), f4.2 21 (by decide), f3.2 21 (by decide), f2.2 21 (by decide)]
    exact h1 j hj
  · rcases (show i = 22 ∨ i = 23 ∨ i = 24 by omega) with h | h | h <;> subst h
    · rw [f8.2 22 (fun h => h), f7.2 22 (fun h => h), f6.2 22 (by decide), f5.2 22 (by decide), f4.2 22 (by decide), f3.2 22 (by decide), h2 j hj]
      exact f1.2 29 (by decide) j
    · rw [f8.2 23 (fun h => h), f7.2 23 (fun h => h), f6.2 23 (by decide), f5.2 23 (by decide), f4.2 23 (by decide), h3 j hj, f2.2 30 (by decide)]
      exact f1.2 30 (by decide) j
    · rw [f8.2 24 (fun h => h), f7.2 24 (fun h => h), f6.2 24 (by decide), f5.2 24 (by decide), h4 j hj, f3.2 31 (by decide), f2.2 31 (by decide)]
      exact f1.2 31 (by decide) j
  · rcases (show i = 25 ∨ i = 26 by omega) with h | h <;> subst h
    · rw [f8.2 25 (fun h => h), f7.2 25 (fun h => h), f6.2 25 (by decide), h5 j hj, f4.2 32 (by decide), f3.2 32 (by decide), f2.2 32 (by decide)]
      exact f1.2 32 (by decide) j
    · rw [f8.2 26 (fun h => h), f7.2 26 (fun h => h), h6 j hj, f5.2 33 (by decide), f4.2 33 (by decide), f3.2 33 (by decide), f2.2 33 (by decide)]
      exact f1.2 33 (by decide) j
  · rw [f8.1 20 6 (by decide), wt_v_sf ε7]
    exact T6.1 27 6 (by decide)
  · rw [wt_v_sf ε8, f7.1 27 7 (by decide)]
    exact T6.1 27 7 (by decide)
/-- a page is taken apart: its pieces are in the case, no other one is moved -/
def wt_apt (g : Nat) (z q : wt_St) : Prop := (wt_ga q 275 g).toInt = -1 ∧ (∀ g', g' ≠ g → wt_ga q 275 g' = wt_ga z 275 g') ∧ (∀ k : Nat, (k : Int) < (wt_ga z 276 g).toInt → wt_ga q 124 (Int32.toNatClampNeg (wt_ga z (278 + g) k)) = -1) ∧ ∀ c, (∀ k : Nat, (k : Int) < (wt_ga z 276 g).toInt → Int32.toNatClampNeg (wt_ga z (278 + g) k) ≠ c) → wt_ga q 124 c = wt_ga z 124 c
set_option maxHeartbeats 4000000 in
theorem wh_takesApart (n : Nat) {x : Int32} {g : Nat} {z : wt_St} (hx : x.toInt = (g : Int)) (hg : g < 4) : wt_H (wp_md_takesApart n x z) (fun q => wt_fr (fun _ _ => False) (fun i => i = 124 ∨ i = 275) z q ∧ wt_apt g z q) := by
  have k0 : (0 : Int32).toInt = 0 := by decide
  have ex : Int32.toNatClampNeg x = g := wt_tnN hx
  unfold wp_md_takesApart
  refine wt_H_it (fun t : Int32 × wt_St => 0 ≤ t.1.toInt ∧ wt_fr (fun _ _ => False) (fun i => i = 124) z t.2 ∧ (∀ k : Nat, (k : Int) < t.1.toInt → wt_ga t.2 124 (Int32.toNatClampNeg (wt_ga z (278 + g) k)) = -1) ∧ ∀ c, (∀ k : Nat, (k : Int) < (wt_ga z 276 g).toInt → Int32.toNatClampNeg (wt_ga z (278 + g) k) ≠ c) → wt_ga t.2 124 c = wt_ga z 124 c) (fun K t I hK => ?_) n _ ⟨by show 0 ≤ ((0 : Int32)).toInt; omega, wt_fr.rf, fun k hk => absurd (show (k : Int) < ((0 : Int32)).toInt from hk) (by omega), fun c _ => rfl⟩
  obtain ⟨i0, f, i1, i2⟩ := I
  have et := wt_tnI i0
  unfold wp_md_takesApart_B2
  rw [ex, f.2 276 (by decide), f.2 (278 + g) (by (try dsimp only); omega)]
  refine wt_H_gd (fun _ => ?_)
  refine wt_H_if (fun c => ?_) (fun c => ?_)
  · have c' := wt_cle c
    refine wt_H_gd (fun _ => ?_)
    obtain ⟨s1, ε⟩ : ∃ o : wt_St, o = wt_sa t.2 275 g (-1 : Int32) := ⟨_, rfl⟩
    rw [← ε]
    have f1 := wt_fr_sa ε
    refine wt_H_some ⟨(wt_frw f (fun i k h => h) (fun i h => Or.inl h)).sa ε (Or.inr rfl), (wt_ceq (wt_v_sa ε)).trans wt_lm1, fun g' hg' => ?_, fun k hk => ?_, fun c' hc' => ?_⟩
    · rw [wt_w_sa ε g' hg']; exact f.2 275 (by decide) g'
    · rw [f1.2 124 (by decide)]; exact i1 k (by omega)
    · rw [f1.2 124 (by decide)]; exact i2 c' hc'
  · have c' := wt_ncle c
    have ei := wt_i1 (c := t.1) (by have b276 := wt_bd (wt_ga z 276 g); omega)
    refine wt_H_gd (fun _ => ?_)
    refine wt_H_gd (fun _ => ?_)
    refine wt_H_gd (fun _ => ?_)
    obtain ⟨s1, ε⟩ : ∃ o : wt_St, o = wt_sa t.2 124 (Int32.toNatClampNeg (wt_ga z (278 + g) (Int32.toNatClampNeg t.1))) (-1 : Int32) := ⟨_, rfl⟩
    rw [← ε]
    refine hK _ ⟨by show 0 ≤ (t.1 + (1 : Int32)).toInt; omega, f.sa ε rfl, fun k hk => ?_, fun c2 hc2 => ?_⟩
    · have hk' : (k : Int) < (t.1 + (1 : Int32)).toInt := hk
      show wt_ga s1 124 _ = -1
      by_cases hq : Int32.toNatClampNeg (wt_ga z (278 + g) k) = Int32.toNatClampNeg (wt_ga z (278 + g) (Int32.toNatClampNeg t.1))
      · rw [hq]; exact wt_v_sa ε
      · rw [wt_w_sa ε _ hq]
        by_cases hk2 : k = Int32.toNatClampNeg t.1
        · exact absurd (by rw [hk2]) hq
        · exact i1 k (by omega)
    · show wt_ga s1 124 c2 = wt_ga z 124 c2
      rw [wt_w_sa ε c2 (fun h => hc2 (Int32.toNatClampNeg t.1) (by omega) h.symm)]
      exact i2 c2 hc2
/-- all pages are taken apart -/
def wt_apA (z q : wt_St) : Prop := (∀ g, g < 4 → (wt_ga q 275 g).toInt = -1) ∧ (∀ g, g < 4 → (wt_ga z 275 g).toInt ≠ -1 → ∀ k : Nat, (k : Int) < (wt_ga z 276 g).toInt → wt_ga q 124 (Int32.toNatClampNeg (wt_ga z (278 + g) k)) = -1) ∧ ∀ c, (∀ g, g < 4 → (wt_ga z 275 g).toInt ≠ -1 → ∀ k : Nat, (k : Int) < (wt_ga z 276 g).toInt → Int32.toNatClampNeg (wt_ga z (278 + g) k) ≠ c) → wt_ga q 124 c = wt_ga z 124 c
set_option maxHeartbeats 4000000 in
theorem wh_pagesOff (n : Nat) {z : wt_St} : wt_H (wt_it (wp_md_tongue_B272 n) n ((0 : Int32), z)) (fun q => q.1 = wt_gf z 108 28 ∧ wt_fr (fun _ _ => False) (fun i => i = 124 ∨ i = 275) z q.2 ∧ wt_apA z q.2) := by
  have k0 : (0 : Int32).toInt = 0 := by decide
  have k4 : (4 : Int32).toInt = 4 := by decide
  refine wt_H_it (fun t : Int32 × wt_St => 0 ≤ t.1.toInt ∧ wt_fr (fun _ _ => False) (fun i => i = 124 ∨ i = 275) z t.2 ∧ (∀ g : Nat, (g : Int) < t.1.toInt → (wt_ga t.2 275 g).toInt = -1) ∧ (∀ g : Nat, t.1.toInt ≤ (g : Int) → wt_ga t.2 275 g = wt_ga z 275 g) ∧ (∀ g : Nat, (g : Int) < t.1.toInt → (wt_ga z 275 g).toInt ≠ -1 → ∀ k : Nat, (k : Int) < (wt_ga z 276 g).toInt → wt_ga t.2 124 (Int32.toNatClampNeg (wt_ga z (278 + g) k)) = -1) ∧ ∀ c, (∀ g, g < 4 → (wt_ga z 275 g).toInt ≠ -1 → ∀ k : Nat, (k : Int) < (wt_ga z 276 g).toInt → Int32.toNatClampNeg (wt_ga z (278 + g) k) ≠ c) → wt_ga t.2 124 c = wt_ga z 124 c) (fun K t I hK => ?_) n _ ⟨by show 0 ≤ ((0 : Int32)).toInt; omega, wt_fr.rf, fun k hk => absurd (show (k : Int) < ((0 : Int32)).toInt from hk) (by omega), fun _ _ => rfl, fun k hk => absurd (show (k : Int) < ((0 : Int32)).toInt from hk) (by omega), fun c _ => rfl⟩
  obtain ⟨i0, f, i1, i2, i3, i4⟩ := I
  have et := wt_tnI i0
  unfold wp_md_tongue_B272
  refine wt_H_if (fun c => ?_) (fun c => ?_)
  · have c' := wt_cle c
    exact wt_H_some ⟨f.1 108 28 (fun h => h), f, fun g hg => i1 g (by omega), fun g hg => i3 g (by omega), i4⟩
  · have c' := wt_ncle c
    have ei := wt_i1 (c := t.1) (by omega)
    refine wt_H_gd (fun _ => ?_)
    unfold wp_md_tongue_B292
    refine wt_H_if (fun d => ?_) (fun d => ?_)
    · have d' := (wt_ceq d).trans wt_lm1
      refine hK _ ⟨by show 0 ≤ (t.1 + (1 : Int32)).toInt; omega, f, fun g hg => ?_, fun g hg => i2 g (by have hg' : (t.1 + (1 : Int32)).toInt ≤ (g : Int) := hg; omega), fun g hg hne => ?_, i4⟩
      · have hg' : (g : Int) < (t.1 + (1 : Int32)).toInt := hg
        by_cases hq : g = Int32.toNatClampNeg t.1
        · rw [hq]; exact d'
        · exact i1 g (by omega)
      · have hg' : (g : Int) < (t.1 + (1 : Int32)).toInt := hg
        by_cases hq : g = Int32.toNatClampNeg t.1
        · rw [hq] at hne
          exact absurd (by rw [← i2 _ (by omega)]; exact d') hne
        · exact i3 g (by omega) hne
    · refine wt_H_bh (wh_takesApart n (g := Int32.toNatClampNeg t.1) (by omega) (by omega)) (fun q hq => ?_)
      obtain ⟨fq, a1, a2, a3, a4⟩ := hq
      have f276 : ∀ g, wt_ga t.2 276 g = wt_ga z 276 g := f.2 276 (by decide)
      have f278 : ∀ g, g < 4 → ∀ k, wt_ga t.2 (278 + g) k = wt_ga z (278 + g) k := fun g hg => f.2 (278 + g) (by (try dsimp only); omega)
      have d' : (wt_ga z 275 (Int32.toNatClampNeg t.1)).toInt ≠ -1 := fun h => d (wt_eqI (by rw [i2 _ (by omega), h]; exact wt_lm1.symm))
      refine hK _ ⟨by show 0 ≤ (t.1 + (1 : Int32)).toInt; omega, wt_fr.tr f fq (fun i k h => h) (fun i h => h), fun g hg => ?_, fun g hg => ?_, fun g hg hne k hk => ?_, fun c3 hc3 => ?_⟩
      · have hg' : (g : Int) < (t.1 + (1 : Int32)).toInt := hg
        show (wt_ga q 275 g).toInt = -1
        by_cases hq : g = Int32.toNatClampNeg t.1
        · rw [hq]; exact a1
        · rw [a2 g hq]; exact i1 g (by omega)
      · have hg' : (t.1 + (1 : Int32)).toInt ≤ (g : Int) := hg
        show wt_ga q 275 g = wt_ga z 275 g
        rw [a2 g (by omega)]
        exact i2 g (by omega)
      · have hg' : (g : Int) < (t.1 + (1 : Int32)).toInt := hg
        show wt_ga q 124 _ = -1
        by_cases hin : ∃ k' : Nat, (k' : Int) < (wt_ga t.2 276 (Int32.toNatClampNeg t.1)).toInt ∧ Int32.toNatClampNeg (wt_ga t.2 (278 + Int32.toNatClampNeg t.1) k') = Int32.toNatClampNeg (wt_ga z (278 + g) k)
        · obtain ⟨k', hk', ek'⟩ := hin
          rw [← ek']
          exact a3 k' hk'
        · rw [a4 _ (fun k' hk' e => hin ⟨k', hk', e⟩)]
          by_cases hq : g = Int32.toNatClampNeg t.1
          · exfalso
            apply hin
            refine ⟨k, by rw [f276, ← hq]; exact hk, by rw [← hq, f278 g (by omega)]⟩
          · exact i3 g (by omega) hne k hk
      · show wt_ga q 124 c3 = wt_ga z 124 c3
        rw [a4 c3 (fun k' hk' => by
          rw [f276] at hk'
          rw [f278 _ (by omega)]
          exact hc3 _ (by omega) d' k' hk')]
        exact i4 c3 hc3
