-- 90e.tongue.lean.txt
section WTQ0
set_option maxRecDepth 100000 in
set_option maxHeartbeats 8000000 in
/-- a tongue is read on both sides: the same fault, or the same words -/
theorem wr_tongueLoop (n m m' : Nat) (hn : 4294967297 < n) {β : Nat → Int32} {e k j : Nat} {s z : wt_St} (tv : wt_tv β e k s) (r : wt_run β e wt_bl k j) (rv : wt_rv β e j z) (h0 : wt_gf z 108 5 = 0) (gr : wt_gr 0 0 0 s z) : wt_HH (wt_it (wp_tg_fill_B12 n 27) m ((0 : Int32), s)) (wt_it (wt_tL n) m' z) (fun q y => (q.1 = 0 ∧ wt_ft q.2 y) ∨ (q.1 = 1 ∧ wt_gf y 108 5 = 0 ∧ ∃ W G, wt_gr W 0 G q.2 y)) := by
  have k0 : (0 : Int32).toInt = 0 := by decide
  have k20 : (20 : Int32).toInt = 20 := by decide
  refine wt_HH_itJ (fun (t : Int32 × wt_St) (y : wt_St) => ∃ W G : Nat, t.1.toInt = (G : Int) ∧ G ≤ 20 ∧ ∃ k j, wt_tv β e k t.2 ∧ wt_run β e wt_bl k j ∧ wt_rv β e j y ∧ wt_gf y 108 5 = 0 ∧ wt_gr W 0 G t.2 y) (fun y => ¬ wt_gf y 108 5 = 0) (fun s y => y = s) (fun a b h => wt_tL_f n a b h) (fun K K' t y I hK hJ => ?_) m m' _ _ ⟨0, 0, by show ((0 : Int32)).toInt = _; omega, by omega, k, j, tv, r, rv, h0, gr⟩
  obtain ⟨W, G, i1, i2, k, j, tv, r, rv, h0, gr⟩ := I
  unfold wp_tg_fill_B12 wt_tL
  rw [if_neg (fun c => by have := wt_clt c; omega), if_pos h0]
  refine wt_HH_l (wh_over n hn tv) (fun q3 h3 => ?_)
  obtain ⟨j', r', tv', st', fr', hc⟩ := h3
  have ej : j' = j := wt_run_u r' r
  rw [ej] at tv' hc
  have gr' : wt_gr W 0 G q3.2 y := wt_gr_lxc _ _ _ _ gr (wt_frw fr' (fun i k h => h) (fun i h => h.elim)) wt_fr.rf
  have t2 := rv.2.1
  have t3 := rv.2.2.1
  rcases hc with ⟨c1, c2⟩ | ⟨c1, c2⟩
  · rw [if_pos c1, if_neg (fun c => by have := wt_cle c; omega)]
    unfold wp_tg_fillGroup
    refine wt_HH_b (wr_groupLoop n hn gr'.1.1 n n 0 j (0 : Int32) q3.2 y (by omega) (by omega) (fun h => absurd h (by omega)) tv' rv h0 gr') (fun a b hab => ?_)
    rcases hab with ⟨a1, f, p, hf, hfl, hfr⟩ | ⟨a1, ⟨W', k2, tv2, rv2, h02, gr2⟩, hlt⟩
    · rw [if_pos a1]
      refine wt_HH_r (wh_blanksF n) (fun w hw => ?_)
      have hw5 := wt_frt_fr hfr hw (by (try dsimp only); omega) (by (try dsimp only); omega)
      refine wt_HH_of (P := fun q => q = ((0 : Int32), a.2)) (P' := fun y => y = w) (wt_H_some rfl) ?_ (fun q y hq hy => Or.inl ⟨by rw [hq], f, p, hf, by rw [hq]; exact hfl, by rw [hy]; exact hw5⟩)
      exact hJ w (wt_frt_nz hw5 hf)
    · rw [if_neg (by rw [a1]; decide)]
      refine wt_HH_r (wh_blanks n rv2) (fun w hw => ?_)
      obtain ⟨j3, r3, rv3, fr3⟩ := hw
      have ei := wt_i1 (c := t.1) (by omega)
      exact hK ((t.1 + (1 : Int32)), a.2) w ⟨W', G + 1, by show (t.1 + (1 : Int32)).toInt = _; omega, by omega, k2, j3, tv2, r3, rv3, (fr3.1 108 5 (by (try dsimp only); omega)).trans h02, wt_gr_lxc _ _ _ _ gr2 wt_fr.rf fr3⟩
  · rw [if_neg (by rw [c1]; decide), if_pos (Int32.le_iff_toInt_le.mpr (by omega))]
    exact wt_HH_some (Or.inr ⟨rfl, h0, W, G, gr'⟩)
set_option maxHeartbeats 4000000 in
theorem wh_tgbecome (n : Nat) {σ : wt_St} : wt_H (wp_tg_become n 20 27 σ) (fun q => wt_fr (fun i k => i = 20 ∧ (k = 6 ∨ k = 7)) (fun i => 20 < i ∧ i < 27) σ q ∧ (∀ j, j < 540 → wt_ga q 21 j = wt_ga σ 28 j) ∧ (∀ i, 22 ≤ i → i < 25 → ∀ j, j < 60 → wt_ga q i j = wt_ga σ (i + 7) j) ∧ (∀ i, 25 ≤ i → i < 27 → ∀ j, j < 20 → wt_ga q i j = wt_ga σ (i + 7) j) ∧ wt_gf q 20 6 = wt_gf σ 27 6 ∧ wt_gf q 20 7 = wt_gf σ 27 7) := by
  unfold wp_tg_become
  refine wt_H_bh (wh_copyRow n (a := 28) (b := 21) (by decide) (by decide)) (fun q1 h1 => ?_)
  refine wt_H_bh (wh_copyRow n (a := 29) (b := 22) (by decide) (by decide)) (fun q2 h2 => ?_)
  refine wt_H_bh (wh_copyRow n (a := 30) (b := 23) (by decide) (by decide)) (fun q3 h3 => ?_)
  refine wt_H_bh (wh_copyRow n (a := 31) (b := 24) (by decide) (by decide)) (fun q4 h4 => ?_)
  refine wt_H_bh (wh_copyRow n (a := 32) (b := 25) (by decide) (by decide)) (fun q5 h5 => ?_)
  refine wt_H_bh (wh_copyRow n (a := 33) (b := 26) (by decide) (by decide)) (fun q6 h6 => ?_)
  have e1 : wt_ln 28 = 540 := by decide
  have e2 : wt_ln 29 = 60 := by decide
  have e3 : wt_ln 30 = 60 := by decide
  have e4 : wt_ln 31 = 60 := by decide
  have e5 : wt_ln 32 = 20 := by decide
  have e6 : wt_ln 33 = 20 := by decide
  obtain ⟨f1, h1⟩ := h1
  obtain ⟨f2, h2⟩ := h2
  obtain ⟨f3, h3⟩ := h3
  obtain ⟨f4, h4⟩ := h4
  obtain ⟨f5, h5⟩ := h5
  obtain ⟨f6, h6⟩ := h6
  rw [e1] at h1
  rw [e2] at h2
  rw [e3] at h3
  rw [e4] at h4
  rw [e5] at h5
  rw [e6] at h6
  obtain ⟨q7, ε7⟩ : ∃ o : wt_St, o = wt_sf q6 20 6 (wt_gf q6 27 6) := ⟨_, rfl⟩
  rw [← ε7]
  obtain ⟨q8, ε8⟩ : ∃ o : wt_St, o = wt_sf q7 20 7 (wt_gf q7 27 7) := ⟨_, rfl⟩
  rw [← ε8]
  have f7 := wt_fr_sf ε7
  have f8 := wt_fr_sf ε8
  have W : ∀ {b : Nat} {s s' : wt_St}, wt_fr (fun _ _ => False) (fun i => i = b) s s' → 20 < b → b < 27 → wt_fr (fun i k => i = 20 ∧ (k = 6 ∨ k = 7)) (fun i => 20 < i ∧ i < 27) s s' := fun f h1 h2 => wt_frw f (fun i k h => h.elim) (fun i h => by (try dsimp only at h); omega)
  have T : ∀ {s s' s'' : wt_St}, wt_fr (fun i k => i = 20 ∧ (k = 6 ∨ k = 7)) (fun i => 20 < i ∧ i < 27) s s' → wt_fr (fun i k => i = 20 ∧ (k = 6 ∨ k = 7)) (fun i => 20 < i ∧ i < 27) s' s'' → wt_fr (fun i k => i = 20 ∧ (k = 6 ∨ k = 7)) (fun i => 20 < i ∧ i < 27) s s'' := fun f g => wt_fr.tr f g (fun i k h => h) (fun i h => h)
  have T6 := T (T (T (T (T (W f1 (by omega) (by omega)) (W f2 (by omega) (by omega))) (W f3 (by omega) (by omega))) (W f4 (by omega) (by omega))) (W f5 (by omega) (by omega))) (W f6 (by omega) (by omega))
  have T8 := (T6.sf ε7 (by first | decide | ((try dsimp only); omega))).sf ε8 (by first | decide | ((try dsimp only); omega))
  refine wt_H_some ⟨T8, fun j hj => ?_, fun i a b j hj => ?_, fun i a b j hj => ?_, ?_, ?_⟩
  · rw [f8.2 21 (fun h => h), f7.2 21 (fun h => h), f6.2 21 (by decide), f5.2 21 (by decide), f4.2 21 (by decide), f3.2 21 (by decide), f2.2 21 (by decide)]
    exact h1 j hj
  · rcases (show i = 22 ∨ i = 23 ∨ i = 24 by omega) with h | h | h <;> subst h
    · rw [f8.2 22 (fun h => h), f7.2 22 (fun h => h), f6.2 22 (by decide), f5.2 22 (by decide), f4.2 22 (by decide), f3.2 22 (by decide), h2 j hj]
      exact f1.2 29 (by decide) j
    · rw [f8.2 23 (fun h => h), f7.2 23 (fun h => h), f6.2 23 (by decide), f5.2 23 (by decide), f4.2 23 (by decide), h3 j hj, f2.2 30 (by decide)]
      exact f1.2 30 (by decide) j
    · rw [f8.2 24 (fun h => h), f7.2 24 (fun h => h), f6.2 24 (by decide), f5.2 24 (by decide), h4 j hj, f3.2 31 (by decide), f2.2 31 (by decide)]
      exact f1.2 31 (by decide) j
  · rcases (show i = 25 ∨ i = 26 by omega) with h | h <;> subst h
    · rw [f8.2 25 (fun h => h), f7.2 25 (fun h => h), f6.2 25 (by decide), h5 j hj, f4.2 32 (by decide), f3.2 32 (by decide), f2.2 32 (by decide)]
      exact f1.2 32 (by decide) j
    · rw [f8.2 26 (fun h => h), f7.2 26 (fun h => h), h6 j hj, f5.2 33 (by decide), f4.2 33 (by decide), f3.2 33 (by decide), f2.2 33 (by decide)]
      exact f1.2 33 (by decide) j
  · rw [f8.1 20 6 (by decide), wt_v_sf ε7]
    exact T6.1 27 6 (by decide)
  · rw [wt_v_sf ε8, f7.1 27 7 (by decide)]
    exact T6.1 27 7 (by decide)
/-- a page is taken apart: its pieces are in the case, no other one is moved -/
def wt_apt (g : Nat) (z q : wt_St) : Prop := (wt_ga q 275 g).toInt = -1 ∧ (∀ g', g' ≠ g → wt_ga q 275 g' = wt_ga z 275 g') ∧ (∀ k : Nat, (k : Int) < (wt_ga z 276 g).toInt → wt_ga q 124 (Int32.toNatClampNeg (wt_ga z (278 + g) k)) = -1) ∧ ∀ c, (∀ k : Nat, (k : Int) < (wt_ga z 276 g).toInt → Int32.toNatClampNeg (wt_ga z (278 + g) k) ≠ c) → wt_ga q 124 c = wt_ga z 124 c
set_option maxHeartbeats 4000000 in
theorem wh_takesApart (n : Nat) {x : Int32} {g : Nat} {z : wt_St} (hx : x.toInt = (g : Int)) (hg : g < 4) : wt_H (wp_md_takesApart n x z) (fun q => wt_fr (fun _ _ => False) (fun i => i = 124 ∨ i = 275) z q ∧ wt_apt g z q) := by
  have k0 : (0 : Int32).toInt = 0 := by decide
  have ex : Int32.toNatClampNeg x = g := wt_tnN hx
  unfold wp_md_takesApart
  refine wt_H_it (fun t : Int32 × wt_St => 0 ≤ t.1.toInt ∧ wt_fr (fun _ _ => False) (fun i => i = 124) z t.2 ∧ (∀ k : Nat, (k : Int) < t.1.toInt → wt_ga t.2 124 (Int32.toNatClampNeg (wt_ga z (278 + g) k)) = -1) ∧ ∀ c, (∀ k : Nat, (k : Int) < (wt_ga z 276 g).toInt → Int32.toNatClampNeg (wt_ga z (278 + g) k) ≠ c) → wt_ga t.2 124 c = wt_ga z 124 c) (fun K t I hK => ?_) n _ ⟨by show 0 ≤ ((0 : Int32)).toInt; omega, wt_fr.rf, fun k hk => absurd (show (k : Int) < ((0 : Int32)).toInt from hk) (by omega), fun c _ => rfl⟩
  obtain ⟨i0, f, i1, i2⟩ := I
  have et := wt_tnI i0
  unfold wp_md_takesApart_B2
  rw [ex, f.2 276 (by decide), f.2 (278 + g) (by (try dsimp only); omega)]
  refine wt_H_gd (fun _ => ?_)
  refine wt_H_if (fun c => ?_) (fun c => ?_)
  · have c' := wt_cle c
    refine wt_H_gd (fun _ => ?_)
    obtain ⟨s1, ε⟩ : ∃ o : wt_St, o = wt_sa t.2 275 g (-1 : Int32) := ⟨_, rfl⟩
    rw [← ε]
    have f1 := wt_fr_sa ε
    refine wt_H_some ⟨(wt_frw f (fun i k h => h) (fun i h => Or.inl h)).sa ε (Or.inr rfl), (wt_ceq (wt_v_sa ε)).trans wt_lm1, fun g' hg' => ?_, fun k hk => ?_, fun c' hc' => ?_⟩
    · rw [wt_w_sa ε g' hg']; exact f.2 275 (by decide) g'
    · rw [f1.2 124 (by decide)]; exact i1 k (by omega)
    · rw [f1.2 124 (by decide)]; exact i2 c' hc'
  · have c' := wt_ncle c
    have ei := wt_i1 (c := t.1) (by have b276 := wt_bd (wt_ga z 276 g); omega)
    refine wt_H_gd (fun _ => ?_)
    refine wt_H_gd (fun _ => ?_)
    refine wt_H_gd (fun _ => ?_)
    obtain ⟨s1, ε⟩ : ∃ o : wt_St, o = wt_sa t.2 124 (Int32.toNatClampNeg (wt_ga z (278 + g) (Int32.toNatClampNeg t.1))) (-1 : Int32) := ⟨_, rfl⟩
    rw [← ε]
    refine hK _ ⟨by show 0 ≤ (t.1 + (1 : Int32)).toInt; omega, f.sa ε rfl, fun k hk => ?_, fun c2 hc2 => ?_⟩
    · have hk' : (k : Int) < (t.1 + (1 : Int32)).toInt := hk
      show wt_ga s1 124 _ = -1
      by_cases hq : Int32.toNatClampNeg (wt_ga z (278 + g) k) = Int32.toNatClampNeg (wt_ga z (278 + g) (Int32.toNatClampNeg t.1))
      · rw [hq]; exact wt_v_sa ε
      · rw [wt_w_sa ε _ hq]
        by_cases hk2 : k = Int32.toNatClampNeg t.1
        · exact absurd (by rw [hk2]) hq
        · exact i1 k (by omega)
    · show wt_ga s1 124 c2 = wt_ga z 124 c2
      rw [wt_w_sa ε c2 (fun h => hc2 (Int32.toNatClampNeg t.1) (by omega) h.symm)]
      exact i2 c2 hc2
/-- all pages are taken apart -/
def wt_apA (z q : wt_St) : Prop := (∀ g, g < 4 → (wt_ga q 275 g).toInt = -1) ∧ (∀ g, g < 4 → (wt_ga z 275 g).toInt ≠ -1 → ∀ k : Nat, (k : Int) < (wt_ga z 276 g).toInt → wt_ga q 124 (Int32.toNatClampNeg (wt_ga z (278 + g) k)) = -1) ∧ ∀ c, (∀ g, g < 4 → (wt_ga z 275 g).toInt ≠ -1 → ∀ k : Nat, (k : Int) < (wt_ga z 276 g).toInt → Int32.toNatClampNeg (wt_ga z (278 + g) k) ≠ c) → wt_ga q 124 c = wt_ga z 124 c
set_option maxHeartbeats 4000000 in
theorem wh_pagesOff (n : Nat) {z : wt_St} : wt_H (wt_it (wp_md_tongue_B272 n) n ((0 : Int32), z)) (fun q => q.1 = wt_gf z 108 28 ∧ wt_fr (fun _ _ => False) (fun i => i = 124 ∨ i = 275) z q.2 ∧ wt_apA z q.2) := by
  have k0 : (0 : Int32).toInt = 0 := by decide
  have k4 : (4 : Int32).toInt = 4 := by decide
  refine wt_H_it (fun t : Int32 × wt_St => 0 ≤ t.1.toInt ∧ wt_fr (fun _ _ => False) (fun i => i = 124 ∨ i = 275) z t.2 ∧ (∀ g : Nat, (g : Int) < t.1.toInt → (wt_ga t.2 275 g).toInt = -1) ∧ (∀ g : Nat, t.1.toInt ≤ (g : Int) → wt_ga t.2 275 g = wt_ga z 275 g) ∧ (∀ g : Nat, (g : Int) < t.1.toInt → (wt_ga z 275 g).toInt ≠ -1 → ∀ k : Nat, (k : Int) < (wt_ga z 276 g).toInt → wt_ga t.2 124 (Int32.toNatClampNeg (wt_ga z (278 + g) k)) = -1) ∧ ∀ c, (∀ g, g < 4 → (wt_ga z 275 g).toInt ≠ -1 → ∀ k : Nat, (k : Int) < (wt_ga z 276 g).toInt → Int32.toNatClampNeg (wt_ga z (278 + g) k) ≠ c) → wt_ga t.2 124 c = wt_ga z 124 c) (fun K t I hK => ?_) n _ ⟨by show 0 ≤ ((0 : Int32)).toInt; omega, wt_fr.rf, fun k hk => absurd (show (k : Int) < ((0 : Int32)).toInt from hk) (by omega), fun _ _ => rfl, fun k hk => absurd (show (k : Int) < ((0 : Int32)).toInt from hk) (by omega), fun c _ => rfl⟩
  obtain ⟨i0, f, i1, i2, i3, i4⟩ := I
  have et := wt_tnI i0
  unfold wp_md_tongue_B272
  refine wt_H_if (fun c => ?_) (fun c => ?_)
  · have c' := wt_cle c
    exact wt_H_some ⟨f.1 108 28 (fun h => h), f, fun g hg => i1 g (by omega), fun g hg => i3 g (by omega), i4⟩
  · have c' := wt_ncle c
    have ei := wt_i1 (c := t.1) (by omega)
    refine wt_H_gd (fun _ => ?_)
    unfold wp_md_tongue_B292
    refine wt_H_if (fun d => ?_) (fun d => ?_)
    · have d' := (wt_ceq d).trans wt_lm1
      refine hK _ ⟨by show 0 ≤ (t.1 + (1 : Int32)).toInt; omega, f, fun g hg => ?_, fun g hg => i2 g (by have hg' : (t.1 + (1 : Int32)).toInt ≤ (g : Int) := hg; omega), fun g hg hne => ?_, i4⟩
      · have hg' : (g : Int) < (t.1 + (1 : Int32)).toInt := hg
        by_cases hq : g = Int32.toNatClampNeg t.1
        · rw [hq]; exact d'
        · exact i1 g (by omega)
      · have hg' : (g : Int) < (t.1 + (1 : Int32)).toInt := hg
        by_cases hq : g = Int32.toNatClampNeg t.1
        · rw [hq] at hne
          exact absurd (by rw [← i2 _ (by omega)]; exact d') hne
        · exact i3 g (by omega) hne
    · refine wt_H_bh (wh_takesApart n (g := Int32.toNatClampNeg t.1) (by omega) (by omega)) (fun q hq => ?_)
      obtain ⟨fq, a1, a2, a3, a4⟩ := hq
      have f276 : ∀ g, wt_ga t.2 276 g = wt_ga z 276 g := f.2 276 (by decide)
      have f278 : ∀ g, g < 4 → ∀ k, wt_ga t.2 (278 + g) k = wt_ga z (278 + g) k := fun g hg => f.2 (278 + g) (by (try dsimp only); omega)
      have d' : (wt_ga z 275 (Int32.toNatClampNeg t.1)).toInt ≠ -1 := fun h => d (wt_eqI (by rw [i2 _ (by omega), h]; exact wt_lm1.symm))
      refine hK _ ⟨by show 0 ≤ (t.1 + (1 : Int32)).toInt; omega, wt_fr.tr f fq (fun i k h => h) (fun i h => h), fun g hg => ?_, fun g hg => ?_, fun g hg hne k hk => ?_, fun c3 hc3 => ?_⟩
      · have hg' : (g : Int) < (t.1 + (1 : Int32)).toInt := hg
        show (wt_ga q 275 g).toInt = -1
        by_cases hq : g = Int32.toNatClampNeg t.1
        · rw [hq]; exact a1
        · rw [a2 g hq]; exact i1 g (by omega)
      · have hg' : (t.1 + (1 : Int32)).toInt ≤ (g : Int) := hg
        show wt_ga q 275 g = wt_ga z 275 g
        rw [a2 g (by omega)]
        exact i2 g (by omega)
      · have hg' : (g : Int) < (t.1 + (1 : Int32)).toInt := hg
        show wt_ga q 124 _ = -1
        by_cases hin : ∃ k' : Nat, (k' : Int) < (wt_ga t.2 276 (Int32.toNatClampNeg t.1)).toInt ∧ Int32.toNatClampNeg (wt_ga t.2 (278 + Int32.toNatClampNeg t.1) k') = Int32.toNatClampNeg (wt_ga z (278 + g) k)
        · obtain ⟨k', hk', ek'⟩ := hin
          rw [← ek']
          exact a3 k' hk'
        · rw [a4 _ (fun k' hk' e => hin ⟨k', hk', e⟩)]
          by_cases hq : g = Int32.toNatClampNeg t.1
          · exfalso
            apply hin
            refine ⟨k, by rw [f276, ← hq]; exact hk, by rw [← hq, f278 g (by omega)]⟩
          · exact i3 g (by omega) hne k hk
      · show wt_ga q 124 c3 = wt_ga z 124 c3
        rw [a4 c3 (fun k' hk' => by
          rw [f276] at hk'
          rw [f278 _ (by omega)]
          exact hc3 _ (by omega) d' k' hk')]
        exact i4 c3 hc3
end WTQ0
-- 90f.tongue2.lean.txt
section WTQ1
def wt_gF (i k : Nat) : Prop := i = 108 ∧ (k = 27 ∨ k = 29 ∨ k = 4 ∨ k = 5 ∨ k = 6)
def wt_gA (i : Nat) : Prop := i = 125 ∨ i = 127 ∨ i = 129 ∨ (132 ≤ i ∧ i < 192)
set_option maxHeartbeats 4000000 in
theorem wh_gL (n m : Nat) (hn : 4294967297 < n) {z : Int32 × wt_St} (r : wt_RI z.2) (i1 : 0 ≤ z.1.toInt) (i2 : z.1.toInt ≤ 6) (i3 : z.1.toInt = 6 → (wt_gf z.2 108 5).toInt ≠ 0) : wt_H (wt_it (wt_gL n) m z) (fun y => wt_RI y.2 ∧ wt_fr wt_gF wt_gA z.2 y.2) := by
  have k0 : (0 : Int32).toInt = 0 := by decide
  refine wt_H_it (fun s : Int32 × wt_St => wt_RI s.2 ∧ wt_fr wt_gF wt_gA z.2 s.2 ∧ 0 ≤ s.1.toInt ∧ s.1.toInt ≤ 6 ∧ (s.1.toInt = 6 → (wt_gf s.2 108 5).toInt ≠ 0)) (fun K s I hK => ?_) m z ⟨r, wt_fr.rf, i1, i2, i3⟩
  obtain ⟨rs, fs, i1, i2, i3⟩ := I
  unfold wt_gL
  refine wt_H_if (fun h3 => ?_) (fun h3 => wt_H_some ⟨rs, fs⟩)
  have c3 := wt_ceq h3
  have i5 : s.1.toInt ≤ 5 := by
    by_cases h6 : s.1.toInt = 6
    · exact absurd (c3.trans k0) (i3 h6)
    · omega
  have g4 : 0 ≤ (wt_gf s.2 108 4).toInt ∧ (wt_gf s.2 108 4).toInt ≤ 500 := wt_R_gf rs 2 rfl
  have g2 : 0 ≤ (wt_gf s.2 108 2).toInt ∧ (wt_gf s.2 108 2).toInt ≤ 500 := wt_R_gf rs 1 rfl
  refine wt_H_bi (wq_md_byteAt n hn (wt_gf s.2 108 4) s.2 rs g4.1) (fun d hd => ?_)
  obtain ⟨ed, pd⟩ := hd
  rw [ed]
  refine wt_H_if (fun h4 => ?_) (fun h4 => wt_H_some ⟨rs, fs⟩)
  have c4 := wt_ceq h4
  have k44 : (44 : Int32).toInt = 44 := by decide
  have e4 := wt_i1 (c := wt_gf s.2 108 4) (by omega)
  obtain ⟨s8, ε8⟩ : ∃ o : wt_St, o = wt_sf s.2 108 4 ((wt_gf s.2 108 4) + (1 : Int32)) := ⟨_, rfl⟩
  rw [← ε8]
  have r8 := wt_RI_fin rs ε8 2 rfl rfl (show 0 ≤ ((wt_gf s.2 108 4) + (1 : Int32)).toInt by omega) (show ((wt_gf s.2 108 4) + (1 : Int32)).toInt ≤ 500 by omega)
  have f8 : wt_fr wt_gF wt_gA z.2 s8 := fs.sf ε8 (by unfold wt_gF; omega)
  refine wt_H_bi (wq_md_reads n hn s.1 s8 r8 i1 i5) (fun a3 ha3 => ?_)
  obtain ⟨fa3, ra3, pa3, -⟩ := ha3
  refine wt_H_bi (wq_md_blanks n hn a3 ra3) (fun a4 ha4 => ?_)
  obtain ⟨fa4, ra4, -⟩ := ha4
  have ei := wt_i1 (c := s.1) (by omega)
  refine hK _ ⟨ra4, wt_fr.tr (wt_fr.tr f8 fa3 (fun i k h => by unfold wt_gF; (try dsimp only at h); omega) (fun i h => by unfold wt_gA; (try dsimp only at h); omega)) fa4 (fun i k h => by unfold wt_gF; (try dsimp only at h); omega) (fun i h => h.elim), (show 0 ≤ (s.1 + (1 : Int32)).toInt by omega), (show (s.1 + (1 : Int32)).toInt ≤ 6 by omega), fun h => ?_⟩
  have h' : (s.1 + (1 : Int32)).toInt = 6 := h
  show (wt_gf a4 108 5).toInt ≠ 0
  rw [fa4.1 108 5 (by (try dsimp only); omega)]
  exact pa3 (by omega)
set_option maxHeartbeats 4000000 in
theorem wh_tL (n m : Nat) (hn : 4294967297 < n) {z : wt_St} (r : wt_RI z) : wt_H (wt_it (wt_tL n) m z) (fun y => wt_RI y ∧ wt_fr wt_gF wt_gA z y) := by
  have k0 : (0 : Int32).toInt = 0 := by decide
  have k1 : (1 : Int32).toInt = 1 := by decide
  refine wt_H_it (fun y : wt_St => wt_RI y ∧ wt_fr wt_gF wt_gA z y) (fun K y hy hK => ?_) m z ⟨r, wt_fr.rf⟩
  unfold wt_tL wt_gB
  refine wt_H_if (fun _ => wt_H_if (fun _ => wt_H_some hy) (fun _ => ?_)) (fun _ => wt_H_some hy)
  simp only [Option.bind_assoc]
  refine wt_H_bi (wq_md_reads n hn (0 : Int32) y hy.1 (by omega) (by omega)) (fun a ha => ?_)
  obtain ⟨fa, ra, -⟩ := ha
  refine wt_H_bi (wq_md_blanks n hn a ra) (fun b hb => ?_)
  obtain ⟨fb, rb, -⟩ := hb
  have e01 : ((0 : Int32) + (1 : Int32)) = (1 : Int32) := by decide
  rw [e01]
  refine wt_H_bh (wh_gL n n hn (z := ((1 : Int32), b)) rb (by show 0 ≤ ((1 : Int32)).toInt; omega) (by show ((1 : Int32)).toInt ≤ 6; omega) (fun h => absurd (show ((1 : Int32)).toInt = 6 from h) (by omega))) (fun c hc => ?_)
  obtain ⟨rc, fc⟩ := hc
  refine wt_H_bi (wq_md_closes n hn (59 : Int32) c.2 rc (by decide)) (fun d hd => ?_)
  obtain ⟨fd, rd, -⟩ := hd
  refine wt_H_bi (wq_md_blanks n hn d rd) (fun f hf => ?_)
  obtain ⟨ff, rf, -⟩ := hf
  exact hK f ⟨rf, wt_fr.tr (wt_fr.tr (wt_fr.tr (wt_fr.tr (wt_fr.tr hy.2 fa (fun i k h => by unfold wt_gF; (try dsimp only at h); omega) (fun i h => by unfold wt_gA; (try dsimp only at h); omega)) fb (fun i k h => by unfold wt_gF; (try dsimp only at h); omega) (fun i h => h.elim)) fc (fun i k h => h) (fun i h => h)) fd (fun i k h => by unfold wt_gF; (try dsimp only at h); omega) (fun i h => h.elim)) ff (fun i k h => by unfold wt_gF; (try dsimp only at h); omega) (fun i h => h.elim)⟩
theorem wt_apA_fr {z s q : wt_St} {F : Nat → Nat → Prop} {A : Nat → Prop} (h : wt_apA s q) (f : wt_fr F A z s) (h1 : ∀ i, i = 124 ∨ (275 ≤ i ∧ i < 282) → ¬ A i) : wt_apA z q := by
  refine ⟨h.1, fun g hg hne k hk => ?_, fun c hc => ?_⟩
  · rw [← f.2 (278 + g) (h1 _ (by omega))]
    exact h.2.1 g hg (by rw [f.2 275 (h1 _ (by omega))]; exact hne) k (by rw [f.2 276 (h1 _ (by omega))]; exact hk)
  · rw [h.2.2 c (fun g hg hne k hk => by
      rw [f.2 (278 + g) (h1 _ (by omega))]
      rw [f.2 276 (h1 _ (by omega))] at hk
      rw [f.2 275 (h1 _ (by omega))] at hne
      exact hc g hg hne k hk)]
    exact f.2 124 (h1 _ (by omega)) c
/-- the tongue that stands, on both sides -/
def wt_TO (s z : wt_St) : Prop := ∃ W G : Nat, ((wt_gf s 20 6).toInt = (W : Int) ∧ (wt_gf z 108 28).toInt = (W : Int) ∧ W ≤ 60) ∧ ((wt_gf s 20 7).toInt = (G : Int) ∧ (wt_gf z 108 30).toInt = (G : Int) ∧ G ≤ 20) ∧ wt_tt 20 126 128 130 193 W s z ∧ wt_gs 20 W G s
set_option maxRecDepth 100000 in
set_option maxHeartbeats 4000000 in
/-- the reference takes the tongue over -/
theorem wh_tongueEnd (n : Nat) {z : wt_St} {W : Nat} (h0 : wt_gf z 108 5 = 0) (hW : (wt_gf z 108 27).toInt = (W : Int)) (hW6 : W ≤ 60) : wt_H (wp_md_tongue_B134 n z) (fun q => q.1 = wt_gf z 108 27 ∧ wt_fr (fun i k => i = 108 ∧ (k = 3 ∨ k = 28 ∨ k = 30 ∨ k = 39 ∨ k = 40 ∨ k = 41)) (fun i => i = 126 ∨ i = 128 ∨ i = 130 ∨ (193 ≤ i ∧ i < 253) ∨ i = 124 ∨ i = 275) z q.2 ∧ (∀ w, w < W → wt_ga q.2 126 w = wt_ga z 125 w ∧ wt_ga q.2 128 w = wt_ga z 127 w ∧ wt_ga q.2 130 w = wt_ga z 129 w ∧ ∀ k, k < 9 → wt_ga q.2 (193 + w) k = wt_ga z (132 + w) k) ∧ wt_gf q.2 108 3 = wt_gf z 108 6 ∧ wt_gf q.2 108 28 = wt_gf z 108 27 ∧ wt_gf q.2 108 30 = wt_gf z 108 29 ∧ wt_gf q.2 108 39 = 0 ∧ wt_gf q.2 108 40 = 0 ∧ wt_gf q.2 108 41 = 0 ∧ wt_apA z q.2) := by
  have k0 : (0 : Int32).toInt = 0 := by decide
  have k9 : (9 : Int32).toInt = 9 := by decide
  unfold wp_md_tongue_B134
  obtain ⟨s1, ε1⟩ : ∃ o : wt_St, o = wt_sf z 108 3 (wt_gf z 108 6) := ⟨_, rfl⟩
  rw [← ε1]
  have f1 := wt_fr_sf ε1
  have e5 : wt_gf s1 108 5 = wt_gf z 108 5 := f1.1 108 5 (by decide)
  have e27 : wt_gf s1 108 27 = wt_gf z 108 27 := f1.1 108 27 (by decide)
  rw [e5, if_pos h0, e27]
  obtain ⟨s2, ε2⟩ : ∃ o : wt_St, o = wt_sf s1 108 28 (wt_gf z 108 27) := ⟨_, rfl⟩
  rw [← ε2]
  have f2 := wt_fr_sf ε2
  have e29 : wt_gf s2 108 29 = wt_gf z 108 29 := (f2.1 108 29 (by decide)).trans (f1.1 108 29 (by decide))
  rw [e29]
  obtain ⟨s3, ε3⟩ : ∃ o : wt_St, o = wt_sf s2 108 30 (wt_gf z 108 29) := ⟨_, rfl⟩
  rw [← ε3]
  have f3 := wt_fr_sf ε3
  have F3 : wt_fr (fun i k => i = 108 ∧ (k = 3 ∨ k = 28 ∨ k = 30)) (fun _ => False) z s3 := ((wt_fr.rf.sf ε1 (by first | decide | ((try dsimp only); omega))).sf ε2 (by first | decide | ((try dsimp only); omega))).sf ε3 (by first | decide | ((try dsimp only); omega))
  have v28 : wt_gf s3 108 28 = wt_gf z 108 27 := (f3.1 108 28 (by decide)).trans (wt_v_sf ε2)
  refine wt_H_it (fun t : Int32 × wt_St => 0 ≤ t.1.toInt ∧ wt_fr (fun _ _ => False) (fun i => i = 126 ∨ i = 128 ∨ i = 130 ∨ (193 ≤ i ∧ i < 253)) s3 t.2 ∧ ∀ w : Nat, (w : Int) < t.1.toInt → wt_ga t.2 126 w = wt_ga z 125 w ∧ wt_ga t.2 128 w = wt_ga z 127 w ∧ wt_ga t.2 130 w = wt_ga z 129 w ∧ ∀ k, k < 9 → wt_ga t.2 (193 + w) k = wt_ga z (132 + w) k) (fun K t I hK => ?_) n _ ⟨by show 0 ≤ ((0 : Int32)).toInt; omega, wt_fr.rf, fun k hk => absurd (show (k : Int) < ((0 : Int32)).toInt from hk) (by omega)⟩
  obtain ⟨i0, ft, i1⟩ := I
  have et := wt_tnI i0
  unfold wp_md_tongue_B175
  rw [ft.1 108 28 (fun h => h), v28]
  refine wt_H_if (fun c => ?_) (fun c => ?_)
  · have c' := wt_cle c
    obtain ⟨u1, δ1⟩ : ∃ o : wt_St, o = wt_sf t.2 108 39 (0 : Int32) := ⟨_, rfl⟩
    rw [← δ1]
    obtain ⟨u2, δ2⟩ : ∃ o : wt_St, o = wt_sf u1 108 40 (0 : Int32) := ⟨_, rfl⟩
    rw [← δ2]
    obtain ⟨u3, δ3⟩ : ∃ o : wt_St, o = wt_sf u2 108 41 (0 : Int32) := ⟨_, rfl⟩
    rw [← δ3]
    have d2 := wt_fr_sf δ2
    have d3 := wt_fr_sf δ3
    have FU : wt_fr (fun i k => i = 108 ∧ (k = 3 ∨ k = 28 ∨ k = 30 ∨ k = 39 ∨ k = 40 ∨ k = 41)) (fun i => i = 126 ∨ i = 128 ∨ i = 130 ∨ (193 ≤ i ∧ i < 253)) z u3 := (((wt_fr.tr (wt_frw F3 (fun i k h => by (try dsimp only at h); omega) (fun i h => h.elim)) ft (fun i k h => h.elim) (fun i h => h)).sf δ1 (by first | decide | ((try dsimp only); omega))).sf δ2 (by first | decide | ((try dsimp only); omega))).sf δ3 (by first | decide | ((try dsimp only); omega))
    have FT : wt_fr (fun i k => i = 108 ∧ (k = 39 ∨ k = 40 ∨ k = 41)) (fun _ => False) t.2 u3 := ((wt_fr.rf.sf δ1 (by first | decide | ((try dsimp only); omega))).sf δ2 (by first | decide | ((try dsimp only); omega))).sf δ3 (by first | decide | ((try dsimp only); omega))
    refine (wh_pagesOff n).imp (fun q hq => ?_)
    obtain ⟨q1, fq, qa⟩ := hq
    refine ⟨?_, wt_fr.tr (wt_frw FU (fun i k h => h) (fun i h => by (try dsimp only at h); omega)) fq (fun i k h => h.elim) (fun i h => by (try dsimp only at h); omega), fun w hw => ?_, ?_, ?_, ?_, ?_, ?_, ?_, wt_apA_fr qa FU (fun i h => by (try dsimp only); omega)⟩
    · rw [q1, FT.1 108 28 (by decide), ft.1 108 28 (fun h => h)]; exact v28
    · rw [fq.2 126 (by decide), fq.2 128 (by decide), fq.2 130 (by decide), FT.2 126 (fun h => h), FT.2 128 (fun h => h), FT.2 130 (fun h => h)]
      obtain ⟨a1, a2, a3, a4⟩ := i1 w (by omega)
      refine ⟨a1, a2, a3, fun k hk => ?_⟩
      rw [fq.2 (193 + w) (by (try dsimp only); omega), FT.2 _ (fun h => h)]
      exact a4 k hk
    · rw [fq.1 108 3 (fun h => h), FT.1 108 3 (by decide), ft.1 108 3 (fun h => h), f3.1 108 3 (by decide), f2.1 108 3 (by decide)]
      exact wt_v_sf ε1
    · rw [fq.1 108 28 (fun h => h), FT.1 108 28 (by decide), ft.1 108 28 (fun h => h)]; exact v28
    · rw [fq.1 108 30 (fun h => h), FT.1 108 30 (by decide), ft.1 108 30 (fun h => h)]; exact wt_v_sf ε3
    · rw [fq.1 108 39 (fun h => h), d3.1 108 39 (by decide), d2.1 108 39 (by decide)]; exact wt_v_sf δ1
    · rw [fq.1 108 40 (fun h => h), d3.1 108 40 (by decide)]; exact wt_v_sf δ2
    · rw [fq.1 108 41 (fun h => h)]; exact wt_v_sf δ3
  · have c' := wt_ncle c
    have ei := wt_i1 (c := t.1) (by omega)
    refine wt_H_gd (fun _ => ?_)
    refine wt_H_gd (fun _ => ?_)
    refine wt_H_gd (fun _ => ?_)
    refine wt_H_gd (fun _ => ?_)
    refine wt_H_gd (fun _ => ?_)
    refine wt_H_gd (fun _ => ?_)
    obtain ⟨u1, δ1⟩ : ∃ o : wt_St, o = wt_sa t.2 126 (Int32.toNatClampNeg t.1) (wt_ga t.2 125 (Int32.toNatClampNeg t.1)) := ⟨_, rfl⟩
    rw [← δ1]
    obtain ⟨u2, δ2⟩ : ∃ o : wt_St, o = wt_sa u1 128 (Int32.toNatClampNeg t.1) (wt_ga u1 127 (Int32.toNatClampNeg t.1)) := ⟨_, rfl⟩
    rw [← δ2]
    obtain ⟨u3, δ3⟩ : ∃ o : wt_St, o = wt_sa u2 130 (Int32.toNatClampNeg t.1) (wt_ga u2 129 (Int32.toNatClampNeg t.1)) := ⟨_, rfl⟩
    rw [← δ3]
    have d1 := wt_fr_sa δ1
    have d2 := wt_fr_sa δ2
    have d3 := wt_fr_sa δ3
    have FU : wt_fr (fun _ _ => False) (fun i => i = 126 ∨ i = 128 ∨ i = 130 ∨ (193 ≤ i ∧ i < 253)) s3 u3 := ((ft.sa δ1 (by first | decide | ((try dsimp only); omega))).sa δ2 (by first | decide | ((try dsimp only); omega))).sa δ3 (by first | decide | ((try dsimp only); omega))
    have w126 : ∀ w : Nat, (w : Int) < (t.1 + (1 : Int32)).toInt → wt_ga u3 126 w = wt_ga z 125 w := fun w hw => by
      rw [d3.2 126 (by decide), d2.2 126 (by decide)]
      by_cases hc : w = Int32.toNatClampNeg t.1
      · rw [hc, wt_v_sa δ1, ft.2 125 (by decide)]; exact F3.2 125 (fun h => h) _
      · rw [wt_w_sa δ1 w hc]; exact (i1 w (by omega)).1
    have w128 : ∀ w : Nat, (w : Int) < (t.1 + (1 : Int32)).toInt → wt_ga u3 128 w = wt_ga z 127 w := fun w hw => by
      rw [d3.2 128 (by decide)]
      by_cases hc : w = Int32.toNatClampNeg t.1
      · rw [hc, wt_v_sa δ2, d1.2 127 (by decide), ft.2 127 (by decide)]; exact F3.2 127 (fun h => h) _
      · rw [wt_w_sa δ2 w hc, d1.2 128 (by decide)]; exact (i1 w (by omega)).2.1
    have w130 : ∀ w : Nat, (w : Int) < (t.1 + (1 : Int32)).toInt → wt_ga u3 130 w = wt_ga z 129 w := fun w hw => by
      by_cases hc : w = Int32.toNatClampNeg t.1
      · rw [hc, wt_v_sa δ3, d2.2 129 (by decide), d1.2 129 (by decide), ft.2 129 (by decide)]; exact F3.2 129 (fun h => h) _
      · rw [wt_w_sa δ3 w hc, d2.2 130 (by decide), d1.2 130 (by decide)]; exact (i1 w (by omega)).2.2.1
    refine wt_H_it (fun v : Int32 × wt_St => 0 ≤ v.1.toInt ∧ wt_fr (fun _ _ => False) (fun i => i = 193 + Int32.toNatClampNeg t.1) u3 v.2 ∧ ∀ k : Nat, (k : Int) < v.1.toInt → wt_ga v.2 (193 + Int32.toNatClampNeg t.1) k = wt_ga z (132 + Int32.toNatClampNeg t.1) k) (fun K2 v J hK2 => ?_) n _ ⟨by show 0 ≤ ((0 : Int32)).toInt; omega, wt_fr.rf, fun k hk => absurd (show (k : Int) < ((0 : Int32)).toInt from hk) (by omega)⟩
    obtain ⟨j0, fv, j1⟩ := J
    have ev := wt_tnI j0
    unfold wp_md_tongue_B221
    refine wt_H_if (fun d => ?_) (fun d => ?_)
    · have d' := wt_cle d
      refine hK _ ⟨by show 0 ≤ (t.1 + (1 : Int32)).toInt; omega, wt_fr.tr FU fv (fun i k h => h) (fun i h => by (try dsimp only at h); omega), fun w hw => ?_⟩
      have hw' : (w : Int) < (t.1 + (1 : Int32)).toInt := hw
      show wt_ga v.2 126 w = wt_ga z 125 w ∧ wt_ga v.2 128 w = wt_ga z 127 w ∧ wt_ga v.2 130 w = wt_ga z 129 w ∧ ∀ k, k < 9 → wt_ga v.2 (193 + w) k = wt_ga z (132 + w) k
      rw [fv.2 126 (by (try dsimp only); omega), fv.2 128 (by (try dsimp only); omega), fv.2 130 (by (try dsimp only); omega)]
      refine ⟨w126 w hw', w128 w hw', w130 w hw', fun k hk => ?_⟩
      by_cases hc : w = Int32.toNatClampNeg t.1
      · rw [hc]; exact j1 k (by omega)
      · rw [fv.2 (193 + w) (by (try dsimp only); omega), d3.2 (193 + w) (by (try dsimp only); omega), d2.2 (193 + w) (by (try dsimp only); omega), d1.2 (193 + w) (by (try dsimp only); omega)]
        exact (i1 w (by omega)).2.2.2 k hk
    · have d' := wt_ncle d
      have ej := wt_i1 (c := v.1) (by omega)
      refine wt_H_gd (fun _ => ?_)
      refine wt_H_gd (fun _ => ?_)
      refine wt_H_gd (fun _ => ?_)
      refine wt_H_gd (fun _ => ?_)
      obtain ⟨v1, δ⟩ : ∃ o : wt_St, o = wt_sa v.2 (193 + Int32.toNatClampNeg t.1) (Int32.toNatClampNeg v.1) (wt_ga v.2 (132 + Int32.toNatClampNeg t.1) (Int32.toNatClampNeg v.1)) := ⟨_, rfl⟩
      rw [← δ]
      refine hK2 _ ⟨by show 0 ≤ (v.1 + (1 : Int32)).toInt; omega, fv.sa δ rfl, fun k hk => ?_⟩
      have hk' : (k : Int) < (v.1 + (1 : Int32)).toInt := hk
      show wt_ga v1 _ k = _
      by_cases hc : k = Int32.toNatClampNeg v.1
      · rw [hc, wt_v_sa δ, fv.2 (132 + Int32.toNatClampNeg t.1) (by (try dsimp only); omega), FU.2 (132 + Int32.toNatClampNeg t.1) (by (try dsimp only); omega)]
        exact F3.2 _ (fun h => h) _
      · rw [wt_w_sa δ k hc]; exact j1 k (by omega)
end WTQ1
-- 90g.tongue3.lean.txt
section WTQ2
/-- what tongue leaves, on both sides -/
def wt_TE (z q y : wt_St) : Prop := wt_TO q y ∧ (wt_gf q 34 4 = 0 ∧ wt_gf q 39 8 = 0 ∧ wt_gf q 0 14 = 0) ∧ (∀ k, k < 312 → wt_ga q 41 k = -1) ∧ (∀ g, g < 4 → wt_ga q 43 g = -1) ∧ (wt_gf y 108 39 = 0 ∧ wt_gf y 108 40 = 0 ∧ wt_gf y 108 41 = 0) ∧ wt_apA z y
theorem wt_TE_fr {z z' q y : wt_St} {F : Nat → Nat → Prop} {A : Nat → Prop} (h : wt_TE z' q y) (f : wt_fr F A z z') (h1 : ∀ i, i = 124 ∨ (275 ≤ i ∧ i < 282) → ¬ A i) : wt_TE z q y := ⟨h.1, h.2.1, h.2.2.1, h.2.2.2.1, h.2.2.2.2.1, wt_apA_fr h.2.2.2.2.2 f h1⟩
set_option maxRecDepth 100000 in
set_option maxHeartbeats 4000000 in
theorem wr_tongueEnd (n : Nat) {s z : wt_St} {W G : Nat} (gr : wt_gr W 0 G s z) (h5 : wt_gf z 108 5 = 0) : wt_HH ((wp_tg_become n 20 27 s).bind fun q6 => (wp_st_clearPages n 39 (wt_sf (wt_sf q6 34 4 (0 : Int32)) 39 8 (0 : Int32))).bind fun q7 => some ((0 : Nat), (wt_gf (wt_sf q7 0 14 (0 : Int32)) 20 6), (wt_sf q7 0 14 (0 : Int32)))) (wp_md_tongue_B134 n z) (fun q y => q.1 = 0 ∧ q.2.1 = y.1 ∧ wt_gf y.2 108 0 = wt_gf z 108 0 ∧ wt_gf q.2.2 1 7 = wt_gf y.2 108 3 ∧ wt_TE z q.2.2 y.2) := by
  obtain ⟨⟨A1, A2, A3⟩, ⟨B1, B2, B3⟩, C, D, EW, PL⟩ := gr
  refine wt_HH_l (wh_tgbecome n) (fun q6 h6 => ?_)
  obtain ⟨f6, b1, b2, b3, b4, b5⟩ := h6
  obtain ⟨s1, δ1⟩ : ∃ o : wt_St, o = wt_sf q6 34 4 (0 : Int32) := ⟨_, rfl⟩
  rw [← δ1]
  obtain ⟨s2, δ2⟩ : ∃ o : wt_St, o = wt_sf s1 39 8 (0 : Int32) := ⟨_, rfl⟩
  rw [← δ2]
  have d1 := wt_fr_sf δ1
  have d2 := wt_fr_sf δ2
  unfold wp_st_clearPages
  simp only [Option.bind_assoc]
  refine wt_HH_l (wh_fillRow n (a := 41)) (fun s3 h3 => ?_)
  obtain ⟨f3, c3⟩ := h3
  refine wt_HH_l (wh_fillRow n (a := 43)) (fun s4 h4 => ?_)
  obtain ⟨f4, c4⟩ := h4
  rw [show wt_ln 41 = 312 from by decide] at c3
  rw [show wt_ln 43 = 4 from by decide] at c4
  show wt_HH (some ((0 : Nat), (wt_gf (wt_sf s4 0 14 (0 : Int32)) 20 6), (wt_sf s4 0 14 (0 : Int32)))) _ _
  obtain ⟨s5, δ5⟩ : ∃ o : wt_St, o = wt_sf s4 0 14 (0 : Int32) := ⟨_, rfl⟩
  rw [← δ5]
  have d5 := wt_fr_sf δ5
  have T : wt_fr (fun i k => (i = 34 ∧ k = 4) ∨ (i = 39 ∧ k = 8) ∨ (i = 0 ∧ k = 14)) (fun i => i = 41 ∨ i = 43) q6 s5 := (wt_fr.tr (wt_fr.tr ((wt_fr.rf.sf δ1 (by first | decide | ((try dsimp only); omega))).sf δ2 (by first | decide | ((try dsimp only); omega))) f3 (fun i k h => h.elim) (fun i h => by (try dsimp only at h); omega)) f4 (fun i k h => h.elim) (fun i h => by (try dsimp only at h); omega)).sf δ5 (by first | decide | ((try dsimp only); omega))
  refine wt_HH_of (P := fun q => q = ((0 : Nat), (wt_gf s5 20 6), s5)) (wt_H_some rfl) (wh_tongueEnd n (W := W) h5 A2 A3) (fun q y hq hy => ?_)
  obtain ⟨e1, fy, ey, e3, e28, e30, e39, e40, e41, ap⟩ := hy
  subst hq
  dsimp only
  refine ⟨rfl, ?_, fy.1 108 0 (by (try dsimp only); omega), ?_, ⟨W, G, ⟨?_, ?_, A3⟩, ⟨?_, ?_, by omega⟩, fun w hw => ?_, ⟨fun g hg => ?_, fun w hw => ?_⟩⟩, ⟨?_, ?_, wt_v_sf δ5⟩, fun k hk => ?_, fun g hg => ?_, ⟨e39, e40, e41⟩, ap⟩
  · rw [T.1 20 6 (by decide), b4, e1]
    exact wt_eqI (A1.trans A2.symm)
  · rw [T.1 1 7 (by decide), f6.1 1 7 (by decide), e3]; exact PL
  · rw [T.1 20 6 (by decide), b4]; exact A1
  · rw [e28]; exact A2
  · rw [T.1 20 7 (by decide), b5]; exact B1
  · rw [e30]; omega
  · show wt_ga s5 22 w = wt_ga y.2 126 w ∧ wt_ga s5 23 w = wt_ga y.2 128 w ∧ wt_ga s5 24 w = wt_ga y.2 130 w ∧ (1 ≤ (wt_ga s5 22 w).toInt ∧ (wt_ga s5 22 w).toInt ≤ 9) ∧ (0 ≤ (wt_ga s5 23 w).toInt ∧ (wt_ga s5 23 w).toInt ≤ 3) ∧ ∀ i : Nat, (i : Int) < (wt_ga s5 22 w).toInt → wt_ga s5 21 (9 * w + i) = wt_ga y.2 (193 + w) i ∧ 0 ≤ (wt_ga s5 21 (9 * w + i)).toInt ∧ (wt_ga s5 21 (9 * w + i)).toInt ≤ 25
    obtain ⟨y1, y2, y3, y4⟩ := ey w hw
    rw [T.2 22 (by decide), T.2 23 (by decide), T.2 24 (by decide), b2 22 (by omega) (by omega) w (by omega), b2 23 (by omega) (by omega) w (by omega), b2 24 (by omega) (by omega) w (by omega), y1, y2, y3]
    obtain ⟨r1, r2, r3, r4, r5, r6⟩ := C w (by omega)
    refine ⟨r1, r2, r3, r4, r5, fun i hi => ?_⟩
    have hi' : (i : Int) < (wt_ga s 29 w).toInt := hi
    have r4' : 1 ≤ (wt_ga s 29 w).toInt ∧ (wt_ga s 29 w).toInt ≤ 9 := r4
    rw [T.2 21 (by decide), b1 (9 * w + i) (by omega), y4 i (by omega)]
    exact r6 i hi
  · show ∃ f m : Nat, (wt_ga s5 25 g).toInt = (f : Int) ∧ (wt_ga s5 26 g).toInt = (m : Int) ∧ 1 ≤ m ∧ m ≤ 5 ∧ f + m ≤ W ∧ ∀ w, w < W → ((wt_ga s5 24 w).toInt = (g : Int) ↔ f ≤ w ∧ w < f + m)
    rw [T.2 25 (by decide), T.2 26 (by decide), b3 25 (by omega) (by omega) g (by omega), b3 26 (by omega) (by omega) g (by omega)]
    obtain ⟨f, m, m1, m2, m3, m4, m5, m6⟩ := D.1 g hg
    refine ⟨f, m, m1, m2, m3, m4, m5, fun w hw => ?_⟩
    rw [T.2 24 (by decide), b2 24 (by omega) (by omega) w (by omega)]
    exact m6 w hw
  · show 0 ≤ (wt_ga s5 24 w).toInt ∧ (wt_ga s5 24 w).toInt < (G : Int)
    rw [T.2 24 (by decide), b2 24 (by omega) (by omega) w (by omega)]
    exact D.2 w hw
  · rw [d5.1 34 4 (by decide), f4.1 34 4 (fun h => h), f3.1 34 4 (fun h => h), d2.1 34 4 (by decide)]; exact wt_v_sf δ1
  · rw [d5.1 39 8 (by decide), f4.1 39 8 (fun h => h), f3.1 39 8 (fun h => h)]; exact wt_v_sf δ2
  · rw [d5.2 41 (fun h => h), f4.2 41 (by decide)]; exact c3 k hk
  · rw [d5.2 43 (fun h => h)]; exact c4 g hg
set_option maxRecDepth 100000 in
set_option maxHeartbeats 8000000 in
/-- tongue on both sides: both refuse, or both answer alike; and then the same words stand, or nothing of either has been taken over -/
theorem wr_tongue (n : Nat) (hn : 4294967297 < n) {x1 : Int32} {s z : wt_St} (tb : wt_TB s z) (rz : wt_RI z) : wt_HH (wp_ap_tongue n x1 s) (wp_md_tongue n x1 z) (fun q y => (q.1 = 1 ∧ wt_gf y.2 108 0 = 1 ∧ q.2.2 = s ∧ wt_fr (fun i k => i = 108 ∧ k = 0) (fun _ => False) z y.2) ∨ (q.1 = 0 ∧ wt_gf y.2 108 0 = 0 ∧ q.2.1 = y.1 ∧ wt_gf q.2.2 1 7 = wt_gf y.2 108 3 ∧ ((q.2.1.toInt < 0 ∧ wt_fr (fun i k => (i = 1 ∧ 2 ≤ k) ∨ i = 27) (fun i => i = 3 ∨ (27 < i ∧ i < 34)) s q.2.2 ∧ wt_fr (fun i k => i = 108 ∧ (k = 27 ∨ k = 29 ∨ k < 8)) wt_gA z y.2) ∨ wt_TE z q.2.2 y.2))) := by
  have k0 : (0 : Int32).toInt = 0 := by decide
  have k10 : (10 : Int32).toInt = 10 := by decide
  have hz : 0 ≤ (wt_gf z 108 1).toInt ∧ (wt_gf z 108 1).toInt ≤ 500 := wt_R_gf rz 0 rfl
  unfold wp_md_tongue
  obtain ⟨z0, ε0⟩ : ∃ o : wt_St, o = wt_sf z 108 0 (0 : Int32) := ⟨_, rfl⟩
  rw [← ε0]
  have g0 := wt_fr_sf ε0
  have rz0 := wt_RI_fno rz ε0 (Or.inr (by decide))
  have e1 : wt_gf z0 108 1 = wt_gf z 108 1 := g0.1 108 1 (by (try dsimp only); omega)
  have t0 : wt_gf z0 108 0 = 0 := wt_v_sf ε0
  rw [e1]
  refine wt_HH_r (wh_in n) (fun q1 h1 => ?_)
  obtain ⟨h1a, h1b⟩ := h1
  rw [h1a]
  have BAD : wt_HH (wp_ap_tongue_B20 n x1 (1 : Int32) s) (wp_md_tongue_B23 n x1 (1 : Int32) z0) (fun q y => (q.1 = 1 ∧ wt_gf y.2 108 0 = 1 ∧ q.2.2 = s ∧ wt_fr (fun i k => i = 108 ∧ k = 0) (fun _ => False) z y.2) ∨ (q.1 = 0 ∧ wt_gf y.2 108 0 = 0 ∧ q.2.1 = y.1 ∧ wt_gf q.2.2 1 7 = wt_gf y.2 108 3 ∧ ((q.2.1.toInt < 0 ∧ wt_fr (fun i k => (i = 1 ∧ 2 ≤ k) ∨ i = 27) (fun i => i = 3 ∨ (27 < i ∧ i < 34)) s q.2.2 ∧ wt_fr (fun i k => i = 108 ∧ (k = 27 ∨ k = 29 ∨ k < 8)) wt_gA z y.2) ∨ wt_TE z q.2.2 y.2))) := by
    unfold wp_ap_tongue_B20 wp_md_tongue_B23
    refine wt_HH_l (wh_refuse1 n) (fun q hq => ?_)
    subst hq
    dsimp only
    rw [if_neg (by decide)]
    refine wt_HH_r (wh_bad1 n t0 (by decide)) (fun y hy => ?_)
    subst hy
    dsimp only
    rw [if_neg (by decide)]
    exact wt_HH_some (Or.inl ⟨rfl, wt_v_sf rfl, rfl, wt_fr.tr g0 (wt_fr_sf rfl) (fun i k h => h) (fun i h => h)⟩)
  have GOOD : 0 ≤ x1.toInt → x1.toInt ≤ (wt_gf z 108 1).toInt → wt_HH (wp_ap_tongue_B20 n x1 (0 : Int32) s) (wp_md_tongue_B23 n x1 (0 : Int32) z0) (fun q y => (q.1 = 1 ∧ wt_gf y.2 108 0 = 1 ∧ q.2.2 = s ∧ wt_fr (fun i k => i = 108 ∧ k = 0) (fun _ => False) z y.2) ∨ (q.1 = 0 ∧ wt_gf y.2 108 0 = 0 ∧ q.2.1 = y.1 ∧ wt_gf q.2.2 1 7 = wt_gf y.2 108 3 ∧ ((q.2.1.toInt < 0 ∧ wt_fr (fun i k => (i = 1 ∧ 2 ≤ k) ∨ i = 27) (fun i => i = 3 ∨ (27 < i ∧ i < 34)) s q.2.2 ∧ wt_fr (fun i k => i = 108 ∧ (k = 27 ∨ k = 29 ∨ k < 8)) wt_gA z y.2) ∨ wt_TE z q.2.2 y.2))) := by
    intro hx0 hx1
    have en := wt_tnI hx0
    unfold wp_ap_tongue_B20 wp_md_tongue_B23
    refine wt_HH_l (wh_refuse0 n) (fun q hq => ?_)
    subst hq
    dsimp only
    rw [if_pos rfl]
    refine wt_HH_r (wh_bad0 n t0) (fun y hy => ?_)
    subst hy
    dsimp only
    rw [if_pos rfl]
    refine wt_HH_l (wh_begin n (β := fun j => wt_ga s 2 j) hx0 (by omega) (fun _ _ => rfl)) (fun s6 hs6 => ?_)
    obtain ⟨tv, e17, -, -, fb⟩ := hs6
    refine wt_HH_r ((wh_starts n (β := fun j => wt_ga s 2 j) (z0 := z0) hx0 (by omega) (fun j hj => by rw [g0.2 109 (fun h => h)]; exact (tb.1 j hj).symm)).and (wq_md_starts n hn x1 z0 rz0 hx0 (by omega)).h) (fun z7 hz7 => ?_)
    obtain ⟨⟨j, rj, rv7, h5, h6, h7, g7⟩, -, rz7, -⟩ := hz7
    obtain ⟨z8, ε8⟩ : ∃ o : wt_St, o = wt_sf z7 108 27 (0 : Int32) := ⟨_, rfl⟩
    rw [← ε8]
    obtain ⟨z9, ε9⟩ : ∃ o : wt_St, o = wt_sf z8 108 29 (0 : Int32) := ⟨_, rfl⟩
    rw [← ε9]
    have rz8 := wt_RI_fin rz7 ε8 5 rfl rfl (show 0 ≤ ((0 : Int32)).toInt by omega) (show ((0 : Int32)).toInt ≤ 60 by omega)
    have rz9 := wt_RI_fno rz8 ε9 (Or.inr (by decide))
    have p9 := wt_fr_sf ε9
    have G89 : wt_fr (fun i k => i = 108 ∧ (k = 27 ∨ k = 29)) (fun _ => False) z7 z9 := (wt_fr.rf.sf ε8 (by first | decide | ((try dsimp only); omega))).sf ε9 (by first | decide | ((try dsimp only); omega))
    rw [wt_tL_fac]
    have FC : wt_H (wp_tg_fill n 27 s6) (fun q => wt_fr (fun i k => (i = 1 ∧ 2 ≤ k) ∨ i = 27) (fun i => i = 3 ∨ (27 < i ∧ i < 34)) s q.2) := (wq_tg_fill n hn 27 s6).h.imp (fun q hq => wt_fr.tr (wt_frw fb (fun i k h => Or.inl h) (fun i h => h.elim)) hq (fun i k h => by (try dsimp only at h); omega) (fun i h => by (try dsimp only at h); omega))
    refine wt_HH_b (P := fun q y => ((q.1 = 0 ∧ wt_ft q.2 y) ∨ (q.1 = 1 ∧ wt_gf y 108 5 = 0 ∧ ∃ W G, wt_gr W 0 G q.2 y)) ∧ (wt_RI y ∧ wt_fr wt_gF wt_gA z9 y) ∧ wt_fr (fun i k => (i = 1 ∧ 2 ≤ k) ∨ i = 27) (fun i => i = 3 ∨ (27 < i ∧ i < 34)) s q.2) ?_ (fun a b hab => ?_)
    · refine fun a b ha hb => ⟨?_, wh_tL n n hn rz9 b hb, FC a ha⟩
      have HF : wt_HH (wp_tg_fill n 27 s6) (wt_it (wt_tL n) n z9) (fun q y => (q.1 = 0 ∧ wt_ft q.2 y) ∨ (q.1 = 1 ∧ wt_gf y 108 5 = 0 ∧ ∃ W G, wt_gr W 0 G q.2 y)) := by
        unfold wp_tg_fill
        obtain ⟨s7, δ7⟩ : ∃ o : wt_St, o = wt_sf s6 27 6 (0 : Int32) := ⟨_, rfl⟩
        rw [← δ7]
        obtain ⟨s8, δ8⟩ : ∃ o : wt_St, o = wt_sf s7 27 7 (0 : Int32) := ⟨_, rfl⟩
        rw [← δ8]
        have d8 := wt_fr_sf δ8
        have T : wt_fr (fun i k => i = 27) (fun _ => False) s6 s8 := (wt_fr.rf.sf δ7 (by decide)).sf δ8 (by decide)
        refine wr_tongueLoop n n n hn (wt_tv_fr tv T (fun h => h) (by decide) (by decide)) rj (wt_rv_fr rv7 G89 (fun h => h) (by decide) (by decide)) ((G89.1 108 5 (by decide)).trans h5) ⟨⟨?_, ?_, by omega⟩, ⟨?_, ?_, by omega⟩, fun w hw => absurd hw (by omega), ⟨fun g hg => absurd hg (by omega), fun w hw => absurd hw (by omega)⟩, fun w h1 h2 => absurd h2 (by omega), ?_⟩
        · rw [d8.1 27 6 (by decide), wt_v_sf δ7]; exact k0
        · rw [p9.1 108 27 (by decide), wt_v_sf ε8]; exact k0
        · rw [wt_v_sf δ8]; exact k0
        · rw [wt_v_sf ε9]; exact k0
        · rw [T.1 1 7 (by decide), G89.1 108 6 (by decide), e17, h6]
      exact HF a b ha hb
    · obtain ⟨hab, ⟨rb, gb⟩, fc⟩ := hab
      have FZ : wt_fr (fun i k => i = 108 ∧ (k = 27 ∨ k = 29 ∨ k < 8)) wt_gA z b := wt_fr.tr (wt_fr.tr (wt_fr.tr (wt_frw g0 (fun i k h => by (try dsimp only at h); omega) (fun i h => h.elim)) g7 (fun i k h => by (try dsimp only at h); omega) (fun i h => h.elim)) G89 (fun i k h => by (try dsimp only at h); omega) (fun i h => h.elim)) gb (fun i k h => by unfold wt_gF at h; omega) (fun i h => h)
      have hb0 : wt_gf b 108 0 = 0 := by rw [gb.1 108 0 (by unfold wt_gF; omega), G89.1 108 0 (by decide), g7.1 108 0 (by (try dsimp only); omega)]; exact t0
      have h53 : 0 ≤ (wt_gf b 108 5).toInt ∧ (wt_gf b 108 5).toInt ≤ 3 := wt_R_gf rb 3 rfl
      rcases hab with ⟨a1, f, p, hf, fl, fm⟩ | ⟨a1, b5, W, G, gr⟩
      · rw [if_pos a1]
        unfold wp_md_tongue_B134
        obtain ⟨zA, εA⟩ : ∃ o : wt_St, o = wt_sf b 108 3 (wt_gf b 108 6) := ⟨_, rfl⟩
        rw [← εA]
        have gA := wt_fr_sf εA
        have e95 : wt_gf zA 108 5 = wt_gf b 108 5 := gA.1 108 5 (by (try dsimp only); omega)
        have e65 : wt_gf a.2 1 6 = wt_gf b 108 5 := wt_eqI (fl.1.trans fm.1.symm)
        have es := wt_subE (x := wt_gf b 108 5) (y := (10 : Int32)) (by omega) (by omega)
        rw [if_neg (by rw [e95]; exact wt_frt_nz fm hf), e95, e65]
        refine wt_HH_some (Or.inr ⟨rfl, (gA.1 108 0 (by (try dsimp only); omega)).trans hb0, rfl, ?_, Or.inl ⟨?_, fc, FZ.sf εA (by first | decide | ((try dsimp only); omega))⟩⟩)
        · show wt_gf a.2 1 7 = wt_gf zA 108 3
          rw [wt_v_sf εA]
          exact wt_eqI (fl.2.trans fm.2.symm)
        · show ((wt_gf b 108 5) - (10 : Int32)).toInt < 0
          omega
      · rw [if_neg (by rw [a1]; decide)]
        exact (wr_tongueEnd n gr b5).imp (fun q y hq => Or.inr ⟨hq.1, hq.2.2.1.trans hb0, hq.2.1, hq.2.2.2.1, Or.inr (wt_TE_fr hq.2.2.2.2 FZ (fun i h => by unfold wt_gA; omega))⟩)
  unfold wp_ap_tongue wp_ap_tongue_B15
  have ts := wt_ceq tb.2
  rcases h1b with ⟨c1, c2⟩ | ⟨c1, c2, c3⟩
  · rw [if_pos c1]
    refine wt_HH_il (fun d => BAD) (fun d => ?_)
    have d' := wt_ncl d
    refine wt_HH_il (fun f => ?_) (fun f => BAD)
    have f' := wt_cle f
    omega
  · rw [if_neg (show ¬ x1 < 0 from fun d => by have := wt_clt d; omega), if_pos (Int32.le_iff_toInt_le.mpr (by omega)), if_neg (by rw [c1]; decide)]
    exact GOOD (by omega) c3
end WTQ2
-- 91a.rel.lean.txt
section WTQ3
/-! all that stands between two calls, on both sides -/
def wu_SH (hb Hb : Int32) : Prop := hb = Hb ∧ 0 ≤ hb.toInt ∧ hb.toInt ≤ 1
def wu_SW (T : Int) (w0 w1 w2 w3 : Nat → Int32) (wn : Int32) (Wt : Nat → Nat → Int32) (Wn : Int32) : Prop := wn = Wn ∧ (0 ≤ wn.toInt ∧ wn.toInt ≤ 10) ∧ ∀ k : Nat, (k : Int) < wn.toInt → (w0 k = Wt k 0 ∧ w1 k = Wt k 1 ∧ w2 k = Wt k 2 ∧ w3 k = Wt k 3) ∧ (0 ≤ (w0 k).toInt ∧ (w0 k).toInt < T) ∧ (1 ≤ (w1 k).toInt ∧ (w1 k).toInt ≤ 400) ∧ (0 ≤ (w2 k).toInt ∧ (w2 k).toInt ≤ 99) ∧ 1 ≤ (w3 k).toInt ∧ (w3 k).toInt ≤ 999
def wu_SP (mn lf pl Lf On Pt : Nat → Int32) : Prop := ∀ l, l < 26 → (∀ i : Nat, (i : Int) < (mn l).toInt → lf (12 * l + i) = Lf (13 * l + i) ∧ pl (12 * l + i) = On (13 * l + i) ∧ ((On (13 * l + i)).toInt = -1 ∨ ∃ g, g < 4 ∧ (On (13 * l + i)).toInt = ((g : Nat) : Int) ∧ (Pt g).toInt ≠ -1)) ∧ ∀ i : Nat, i < 12 → (mn l).toInt ≤ (i : Int) → (pl (12 * l + i)).toInt = -1
def wu_SG (mn rk pt On Pt Pm : Nat → Int32) (Pc : Nat → Nat → Int32) : Prop := ∀ g, g < 4 → pt g = Pt g ∧ ((Pt g).toInt ≠ -1 → (∀ k : Nat, (k : Int) < (Pm g).toInt → ∃ l i : Nat, l < 26 ∧ (i : Int) < (mn l).toInt ∧ (Pc g k).toInt = ((13 * l + i : Nat) : Int) ∧ (On (13 * l + i)).toInt = (g : Int) ∧ (rk (12 * l + i)).toInt = wt_ct (fun k' => (Pc g k').toInt / 13) (l : Int) k) ∧ ∀ l i : Nat, l < 26 → (i : Int) < (mn l).toInt → (On (13 * l + i)).toInt = (g : Int) → ∃ k : Nat, (k : Int) < (Pm g).toInt ∧ (Pc g k).toInt = ((13 * l + i : Nat) : Int))
def wu_SS (s : wt_St) (b : Nat) (mn : Nat → Int32) (T : Int) (Lf On Pt Pm : Nat → Int32) (Pc Wt : Nat → Nat → Int32) (Wn Hb : Int32) : Prop := wu_SH (wt_gf s b 9) Hb ∧ wu_SW T (wt_ga s (b + 5)) (wt_ga s (b + 6)) (wt_ga s (b + 7)) (wt_ga s (b + 8)) (wt_gf s b 8) Wt Wn ∧ wu_SP mn (wt_ga s (b + 1)) (wt_ga s (b + 2)) Lf On Pt ∧ wu_SG mn (wt_ga s (b + 3)) (wt_ga s (b + 4)) On Pt Pm Pc
/-- what is now -/
def wu_SC (s z : wt_St) : Prop := wu_SS s 39 (wt_ga z 111) (wt_gf z 108 39).toInt (wt_ga z 121) (wt_ga z 124) (wt_ga z 275) (wt_ga z 276) (fun g => wt_ga z (278 + g)) (fun k => wt_ga z (264 + k)) (wt_gf z 108 40) (wt_gf z 108 26)
/-- an image -/
def wu_S1 (s z : wt_St) (i : Nat) : Prop := wu_SS s (49 + 9 * i) (wt_ga z 111) (wt_gf z 108 39).toInt (fun c => wt_ga z (283 + i) (2 + 2 * c)) (fun c => wt_ga z (283 + i) (3 + 2 * c)) (fun g => wt_ga z (283 + i) (678 + 110 * g)) (fun g => wt_ga z (283 + i) (679 + 110 * g)) (fun g k => wt_ga z (283 + i) (680 + 110 * g + k)) (fun k j => wt_ga z (283 + i) (1118 + 4 * k + j)) (wt_ga z (283 + i) 1) (wt_ga z (283 + i) 0)
def wu_SI (s z : wt_St) : Prop := wt_gf s 0 14 = wt_gf z 108 41 ∧ ∀ i : Nat, (i : Int) < (wt_gf z 108 41).toInt → wu_S1 s z i
/-- the case as it was told -/
def wu_LC (s z : wt_St) : Prop := (∀ l, l < 26 → wt_ga s 5 l = wt_ga z 111 l ∧ 0 ≤ (wt_ga s 5 l).toInt ∧ (wt_ga s 5 l).toInt ≤ 12) ∧ wt_pr s z 7 8 113 123 ∧ (∀ l, l < 26 → wt_ga s 9 l = wt_ga z 115 l) ∧ (∀ l, l < 26 → wt_ga s 10 l = wt_ga z 117 l) ∧ (∀ m, m < 4 → wt_ga s 11 m = wt_ga z 119 m) ∧ wt_gf s 4 7 = wt_gf z 108 25
/-- the texts -/
def wu_X1 (s z : wt_St) (t : Nat) : Prop := ∃ m : Nat, (wt_ga s 36 t).toInt = (m : Int) ∧ wt_ga z 253 t = wt_ga s 36 t ∧ 1 ≤ m ∧ m ≤ 12 ∧ (∀ i, i < m → wt_ga s 35 (12 * t + i) = wt_ga z (255 + t) i ∧ 0 ≤ (wt_ga s 35 (12 * t + i)).toInt ∧ (wt_ga s 35 (12 * t + i)).toInt < (wt_gf z 108 28).toInt) ∧ ∀ l, l < 26 → (wt_ga s 37 (26 * t + l)).toInt = wt_nt z t (l : Int)
def wu_TX (s z : wt_St) : Prop := wt_gf s 34 4 = wt_gf z 108 39 ∧ ∀ t : Nat, (t : Int) < (wt_gf z 108 39).toInt → wu_X1 s z t
def wu_RL (s z : wt_St) : Prop := (∀ j, j < 500 → wt_ga s 2 j = wt_ga z 109 j) ∧ wt_gf s 1 7 = wt_gf z 108 3 ∧ wt_TO s z ∧ wu_LC s z ∧ wu_TX s z ∧ wu_SC s z ∧ wu_SI s z
/-! what leaves all that alone -/
theorem wu_SW_le {T T' : Int} {w0 w1 w2 w3 : Nat → Int32} {wn : Int32} {Wt : Nat → Nat → Int32} {Wn : Int32} (h : wu_SW T w0 w1 w2 w3 wn Wt Wn) (hT : T ≤ T') : wu_SW T' w0 w1 w2 w3 wn Wt Wn := ⟨h.1, h.2.1, fun k hk => by
  obtain ⟨a, b, c⟩ := h.2.2 k hk
  exact ⟨a, ⟨b.1, by omega⟩, c⟩⟩
theorem wu_SS_eq {s s' : wt_St} {b : Nat} {mn : Nat → Int32} {T T' : Int} {Lf On Pt Pm : Nat → Int32} {Pc Wt : Nat → Nat → Int32} {Wn Hb : Int32} (h : wu_SS s b mn T Lf On Pt Pm Pc Wt Wn Hb) (ea : ∀ i, b < i → i < b + 9 → ∀ j, wt_ga s' i j = wt_ga s i j) (e8 : wt_gf s' b 8 = wt_gf s b 8) (e9 : wt_gf s' b 9 = wt_gf s b 9) (eT : T ≤ T') : wu_SS s' b mn T' Lf On Pt Pm Pc Wt Wn Hb := by
  obtain ⟨h1, h2, h3, h4⟩ := h
  have A : ∀ i, b < i → i < b + 9 → wt_ga s' i = wt_ga s i := fun i p q => funext (ea i p q)
  unfold wu_SS
  rw [e8, e9, A (b + 1) (by omega) (by omega), A (b + 2) (by omega) (by omega), A (b + 3) (by omega) (by omega), A (b + 4) (by omega) (by omega), A (b + 5) (by omega) (by omega), A (b + 6) (by omega) (by omega), A (b + 7) (by omega) (by omega), A (b + 8) (by omega) (by omega)]
  exact ⟨h1, wu_SW_le h2 eT, h3, h4⟩
/-- the cells of which an image speaks -/
theorem wu_SI_eq {s s' z z' : wt_St} (h : wu_SI s z) (e0 : wt_gf s' 0 14 = wt_gf s 0 14) (e41 : wt_gf z' 108 41 = wt_gf z 108 41) (ea : ∀ i, 49 < i → i < 76 → ∀ j, wt_ga s' i j = wt_ga s i j) (ef : ∀ i, i = 49 ∨ i = 58 ∨ i = 67 → wt_gf s' i 8 = wt_gf s i 8 ∧ wt_gf s' i 9 = wt_gf s i 9) (ek : ∀ i, 283 ≤ i → i < 286 → ∀ j, wt_ga z' i j = wt_ga z i j) (em : ∀ j, wt_ga z' 111 j = wt_ga z 111 j) (eT : (wt_gf z 108 39).toInt ≤ (wt_gf z' 108 39).toInt) (h3 : (wt_gf z 108 41).toInt ≤ 3) : wu_SI s' z' := by
  refine ⟨by rw [e0, e41]; exact h.1, fun i hi => ?_⟩
  rw [e41] at hi
  have h1 := h.2 i hi
  have ek' : wt_ga z' (283 + i) = wt_ga z (283 + i) := funext (ek _ (by omega) (by omega))
  have em' : wt_ga z' 111 = wt_ga z 111 := funext em
  unfold wu_S1
  rw [ek', em']
  have hf := ef (49 + 9 * i) (by omega)
  exact wu_SS_eq h1 (fun j p q => ea j (by omega) (by omega)) hf.1 hf.2 eT
theorem wu_SI_fr {s s' z z' : wt_St} {F F' : Nat → Nat → Prop} {A A' : Nat → Prop} (h : wu_SI s z) (f : wt_fr F A s s') (g : wt_fr F' A' z z') (h3 : (wt_gf z 108 41).toInt ≤ 3) (hF : ∀ i k, (i = 0 ∧ k = 14) ∨ i = 49 ∨ i = 58 ∨ i = 67 → ¬ F i k) (hF' : ∀ k, k = 41 ∨ k = 39 → ¬ F' 108 k) (hA : ∀ i, 49 < i → i < 76 → ¬ A i) (hA' : ∀ i, (283 ≤ i ∧ i < 286) ∨ i = 111 → ¬ A' i) : wu_SI s' z' := wu_SI_eq h (f.1 0 14 (hF 0 14 (by omega))) (g.1 108 41 (hF' 41 (by omega))) (fun i p q => f.2 i (hA i p q)) (fun i hi => ⟨f.1 i 8 (hF i 8 (by omega)), f.1 i 9 (hF i 9 (by omega))⟩) (fun i p q => g.2 i (hA' i (by omega))) (g.2 111 (hA' 111 (by omega))) (by rw [g.1 108 39 (hF' 39 (by omega))]; exact Int.le_refl _) h3
theorem wu_SC_eq {s s' z z' : wt_St} (h : wu_SC s z) (ea : ∀ i, 39 < i → i < 48 → ∀ j, wt_ga s' i j = wt_ga s i j) (ea' : ∀ i, i = 121 ∨ i = 124 ∨ i = 275 ∨ i = 276 ∨ (278 ≤ i ∧ i < 282) ∨ (264 ≤ i ∧ i < 274) ∨ i = 111 → ∀ j, wt_ga z' i j = wt_ga z i j) (ef : ∀ k, k = 8 ∨ k = 9 → wt_gf s' 39 k = wt_gf s 39 k) (ef' : ∀ k, k = 40 ∨ k = 26 → wt_gf z' 108 k = wt_gf z 108 k) (eT : (wt_gf z 108 39).toInt ≤ (wt_gf z' 108 39).toInt) : wu_SC s' z' := by
  have A : ∀ i, 39 < i → i < 48 → wt_ga s' i = wt_ga s i := fun i p q => funext (ea i p q)
  have A' : ∀ i, i = 121 ∨ i = 124 ∨ i = 275 ∨ i = 276 ∨ (278 ≤ i ∧ i < 282) ∨ (264 ≤ i ∧ i < 274) ∨ i = 111 → wt_ga z' i = wt_ga z i := fun i hi => funext (ea' i hi)
  obtain ⟨h1, h2, h3, h4⟩ := h
  refine ⟨?_, ?_, ?_, ?_⟩
  · rw [ef 9 (by omega), ef' 26 (by omega)]; exact h1
  · rw [ef 8 (by omega), ef' 40 (by omega), A (39 + 5) (by omega) (by omega), A (39 + 6) (by omega) (by omega), A (39 + 7) (by omega) (by omega), A (39 + 8) (by omega) (by omega)]
    refine ⟨h2.1, h2.2.1, fun k hk => ?_⟩
    obtain ⟨a, b, c⟩ := h2.2.2 k hk
    have g := h2.2.1
    refine ⟨?_, ⟨b.1, by omega⟩, c⟩
    show wt_ga s (39 + 5) k = wt_ga z' (264 + k) 0 ∧ wt_ga s (39 + 6) k = wt_ga z' (264 + k) 1 ∧ wt_ga s (39 + 7) k = wt_ga z' (264 + k) 2 ∧ wt_ga s (39 + 8) k = wt_ga z' (264 + k) 3
    rw [A' (264 + k) (by omega)]
    exact a
  · rw [A' 111 (by omega), A (39 + 1) (by omega) (by omega), A (39 + 2) (by omega) (by omega), A' 121 (by omega), A' 124 (by omega), A' 275 (by omega)]; exact h3
  · rw [A' 111 (by omega), A (39 + 3) (by omega) (by omega), A (39 + 4) (by omega) (by omega), A' 124 (by omega), A' 275 (by omega), A' 276 (by omega)]
    intro g hg
    show wt_ga s (39 + 4) g = wt_ga z 275 g ∧ ((wt_ga z 275 g).toInt ≠ -1 → (∀ k : Nat, (k : Int) < (wt_ga z 276 g).toInt → ∃ l i : Nat, l < 26 ∧ (i : Int) < (wt_ga z 111 l).toInt ∧ (wt_ga z' (278 + g) k).toInt = ((13 * l + i : Nat) : Int) ∧ (wt_ga z 124 (13 * l + i)).toInt = (g : Int) ∧ (wt_ga s (39 + 3) (12 * l + i)).toInt = wt_ct (fun k' => (wt_ga z' (278 + g) k').toInt / 13) (l : Int) k) ∧ ∀ l i : Nat, l < 26 → (i : Int) < (wt_ga z 111 l).toInt → (wt_ga z 124 (13 * l + i)).toInt = (g : Int) → ∃ k : Nat, (k : Int) < (wt_ga z 276 g).toInt ∧ (wt_ga z' (278 + g) k).toInt = ((13 * l + i : Nat) : Int))
    rw [A' (278 + g) (by omega)]
    exact h4 g hg
theorem wu_SC_fr {s s' z z' : wt_St} {F F' : Nat → Nat → Prop} {A A' : Nat → Prop} (h : wu_SC s z) (f : wt_fr F A s s') (g : wt_fr F' A' z z') (hF : ∀ k, k = 8 ∨ k = 9 → ¬ F 39 k) (hF' : ∀ k, k = 40 ∨ k = 26 ∨ k = 39 → ¬ F' 108 k) (hA : ∀ i, 39 < i → i < 48 → ¬ A i) (hA' : ∀ i, i = 121 ∨ i = 124 ∨ i = 275 ∨ i = 276 ∨ (278 ≤ i ∧ i < 282) ∨ (264 ≤ i ∧ i < 274) ∨ i = 111 → ¬ A' i) : wu_SC s' z' := wu_SC_eq h (fun i p q => f.2 i (hA i p q)) (fun i hi => g.2 i (hA' i hi)) (fun k hk => f.1 39 k (hF k hk)) (fun k hk => g.1 108 k (hF' k (by omega))) (by rw [g.1 108 39 (hF' 39 (by omega))]; exact Int.le_refl _)
theorem wt_TO_fr {s s' z z' : wt_St} {F F' : Nat → Nat → Prop} {A A' : Nat → Prop} (h : wt_TO s z) (f : wt_fr F A s s') (g : wt_fr F' A' z z') (hF : ¬ F 20 6 ∧ ¬ F 20 7) (hA : ∀ i, 20 < i → i < 27 → ¬ A i) (hF' : ¬ F' 108 28 ∧ ¬ F' 108 30) (hA' : ∀ i, i = 126 ∨ i = 128 ∨ i = 130 ∨ (193 ≤ i ∧ i < 253) → ¬ A' i) : wt_TO s' z' := by
  obtain ⟨W, G, ⟨a1, a2, a3⟩, ⟨b1, b2, b3⟩, c, d⟩ := h
  exact ⟨W, G, ⟨by rw [f.1 20 6 hF.1]; exact a1, by rw [g.1 108 28 hF'.1]; exact a2, a3⟩, ⟨by rw [f.1 20 7 hF.2]; exact b1, by rw [g.1 108 30 hF'.2]; exact b2, b3⟩, wt_tt_fr c f g (fun i p q => hA i (by omega) (by omega)) (fun i hi => hA' i (by omega)), wt_gs_fr d f (fun i p q => hA i (by omega) (by omega))⟩
theorem wu_LC_fr {s s' z z' : wt_St} {F F' : Nat → Nat → Prop} {A A' : Nat → Prop} (h : wu_LC s z) (f : wt_fr F A s s') (g : wt_fr F' A' z z') (hF : ¬ F 4 7) (hA : ∀ i, i = 5 ∨ (6 < i ∧ i < 12) → ¬ A i) (hF' : ¬ F' 108 25) (hA' : ∀ i, i = 111 ∨ i = 113 ∨ i = 115 ∨ i = 117 ∨ i = 119 ∨ i = 123 → ¬ A' i) : wu_LC s' z' := by
  obtain ⟨a1, a2, a3, a4, a5, a6⟩ := h
  refine ⟨fun l hl => ?_, wt_pr_fr a2 f g (hA _ (by omega)) (hA _ (by omega)) (hA' _ (by omega)) (hA' _ (by omega)), fun l hl => ?_, fun l hl => ?_, fun l hl => ?_, ?_⟩
  · rw [f.2 5 (hA _ (by omega)), g.2 111 (hA' _ (by omega))]; exact a1 l hl
  · rw [f.2 9 (hA _ (by omega)), g.2 115 (hA' _ (by omega))]; exact a3 l hl
  · rw [f.2 10 (hA _ (by omega)), g.2 117 (hA' _ (by omega))]; exact a4 l hl
  · rw [f.2 11 (hA _ (by omega)), g.2 119 (hA' _ (by omega))]; exact a5 l hl
  · rw [f.1 4 7 hF, g.1 108 25 hF']; exact a6
theorem wu_X1_eq {s s' z z' : wt_St} {t : Nat} (h : wu_X1 s z t) (r : wt_RI z) (ht : t ≤ 7) (e36 : wt_ga s' 36 t = wt_ga s 36 t) (e35 : ∀ i, i < 12 → wt_ga s' 35 (12 * t + i) = wt_ga s 35 (12 * t + i)) (e37 : ∀ l, l < 26 → wt_ga s' 37 (26 * t + l) = wt_ga s 37 (26 * t + l)) (e28 : wt_gf z' 108 28 = wt_gf z 108 28) (e253 : wt_ga z' 253 t = wt_ga z 253 t) (e255 : ∀ j, wt_ga z' (255 + t) j = wt_ga z (255 + t) j) (ew : ∀ i, i = 126 ∨ (193 ≤ i ∧ i < 253) → ∀ j, wt_ga z' i j = wt_ga z i j) : wu_X1 s' z' t := by
  obtain ⟨m, a1, a2, a3, a4, a5, a6⟩ := h
  refine ⟨m, by rw [e36]; exact a1, by rw [e36, e253]; exact a2, a3, a4, fun i hi => ?_, fun l hl => ?_⟩
  · rw [e35 i (by omega), e255, e28]; exact a5 i hi
  · rw [e37 l hl, a6 l hl]
    unfold wt_nt
    rw [e253]
    have e : (fun k => wt_nw z' (Int32.toNatClampNeg (wt_ga z' (255 + t) k)) (l : Int)) = (fun k => wt_nw z (Int32.toNatClampNeg (wt_ga z (255 + t) k)) (l : Int)) := by
      funext k
      have g := wt_R_ga r 10 rfl (255 + t) (show 255 ≤ 255 + t by omega) (show 255 + t < 263 by omega) k
      have gk := wt_tnle (b := 59) g.2
      rw [e255 k]
      unfold wt_nw
      rw [ew 126 (Or.inl rfl)]
      have e2 : (fun j => (wt_ga z' (193 + Int32.toNatClampNeg (wt_ga z (255 + t) k)) j).toInt) = (fun j => (wt_ga z (193 + Int32.toNatClampNeg (wt_ga z (255 + t) k)) j).toInt) := by
        funext j
        rw [ew (193 + Int32.toNatClampNeg (wt_ga z (255 + t) k)) (by omega) j]
      rw [e2]
    rw [e]
theorem wu_TX_fr {s s' z z' : wt_St} {F F' : Nat → Nat → Prop} {A A' : Nat → Prop} (h : wu_TX s z) (r : wt_RI z) (f : wt_fr F A s s') (g : wt_fr F' A' z z') (hF : ¬ F 34 4) (hA : ∀ i, 34 < i → i < 38 → ¬ A i) (hF' : ¬ F' 108 39 ∧ ¬ F' 108 28) (hA' : ∀ i, i = 126 ∨ (193 ≤ i ∧ i < 254) ∨ (255 ≤ i ∧ i < 263) → ¬ A' i) : wu_TX s' z' := by
  have g39 : 0 ≤ (wt_gf z 108 39).toInt ∧ (wt_gf z 108 39).toInt ≤ 8 := wt_R_gf r 7 rfl
  refine ⟨by rw [f.1 34 4 hF, g.1 108 39 hF'.1]; exact h.1, fun t ht => ?_⟩
  rw [g.1 108 39 hF'.1] at ht
  exact wu_X1_eq (h.2 t ht) r (by omega) (f.2 36 (hA _ (by omega) (by omega)) t) (fun i _ => f.2 35 (hA _ (by omega) (by omega)) _) (fun i _ => f.2 37 (hA _ (by omega) (by omega)) _) (g.1 108 28 hF'.2) (g.2 253 (hA' _ (by omega)) t) (g.2 (255 + t) (hA' _ (by omega))) (fun i hi => g.2 i (hA' _ (by omega)))
/-- cells that all this speaks of: on the one side, on the other -/
def wu_RA (i : Nat) : Prop := i = 2 ∨ i = 5 ∨ (6 < i ∧ i < 12) ∨ (20 < i ∧ i < 27) ∨ (34 < i ∧ i < 38) ∨ (39 < i ∧ i < 48) ∨ (49 < i ∧ i < 76)
def wu_RB (i : Nat) : Prop := i = 109 ∨ i = 111 ∨ i = 113 ∨ i = 115 ∨ i = 117 ∨ i = 119 ∨ i = 121 ∨ i = 123 ∨ i = 124 ∨ i = 126 ∨ i = 128 ∨ i = 130 ∨ (193 ≤ i ∧ i < 254) ∨ (255 ≤ i ∧ i < 263) ∨ (264 ≤ i ∧ i < 274) ∨ i = 275 ∨ i = 276 ∨ (278 ≤ i ∧ i < 282) ∨ (283 ≤ i ∧ i < 286)
def wu_RF (i k : Nat) : Prop := (i = 1 ∧ k = 7) ∨ (i = 20 ∧ (k = 6 ∨ k = 7)) ∨ (i = 4 ∧ k = 7) ∨ (i = 34 ∧ k = 4) ∨ (i = 39 ∧ (k = 8 ∨ k = 9)) ∨ (i = 0 ∧ k = 14) ∨ i = 49 ∨ i = 58 ∨ i = 67
def wu_RG (k : Nat) : Prop := k = 3 ∨ k = 25 ∨ k = 26 ∨ k = 28 ∨ k = 30 ∨ k = 39 ∨ k = 40 ∨ k = 41
theorem wu_RL_fr {s s' z z' : wt_St} {F F' : Nat → Nat → Prop} {A A' : Nat → Prop} (h : wu_RL s z) (r : wt_RI z) (f : wt_fr F A s s') (g : wt_fr F' A' z z') (hF : ∀ i k, wu_RF i k → ¬ F i k) (hA : ∀ i, wu_RA i → ¬ A i) (hF' : ∀ k, wu_RG k → ¬ F' 108 k) (hA' : ∀ i, wu_RB i → ¬ A' i) : wu_RL s' z' := by
  obtain ⟨a1, a2, a3, a4, a5, a6, a7⟩ := h
  have g41 : 0 ≤ (wt_gf z 108 41).toInt ∧ (wt_gf z 108 41).toInt ≤ 3 := wt_R_gf r 9 rfl
  refine ⟨fun j hj => ?_, ?_, wt_TO_fr a3 f g ⟨hF _ _ (by unfold wu_RF; first | decide | omega), hF _ _ (by unfold wu_RF; first | decide | omega)⟩ (fun i p q => hA _ (by unfold wu_RA; first | decide | omega)) ⟨hF' _ (by unfold wu_RG; first | decide | omega), hF' _ (by unfold wu_RG; first | decide | omega)⟩ (fun i hi => hA' _ (by rcases hi with h | h | h | h <;> (unfold wu_RB; first | (subst h; decide) | omega))), wu_LC_fr a4 f g (hF _ _ (by unfold wu_RF; first | decide | omega)) (fun i hi => hA _ (by unfold wu_RA; first | decide | omega)) (hF' _ (by unfold wu_RG; first | decide | omega)) (fun i hi => hA' _ (by rcases hi with h | h | h | h | h | h <;> (unfold wu_RB; first | (subst h; decide) | omega))), wu_TX_fr a5 r f g (hF _ _ (by unfold wu_RF; first | decide | omega)) (fun i p q => hA _ (by unfold wu_RA; first | decide | omega)) ⟨hF' _ (by unfold wu_RG; first | decide | omega), hF' _ (by unfold wu_RG; first | decide | omega)⟩ (fun i hi => hA' _ (by rcases hi with h | h | h <;> (unfold wu_RB; first | (subst h; decide) | omega))), wu_SC_fr a6 f g (fun k hk => hF _ _ (by unfold wu_RF; first | decide | omega)) (fun k hk => hF' _ (by unfold wu_RG; first | decide | omega)) (fun i p q => hA _ (by unfold wu_RA; first | decide | omega)) (fun i hi => hA' _ (by rcases hi with h | h | h | h | h | h | h <;> (unfold wu_RB; first | (subst h; decide) | omega))), wu_SI_fr a7 f g g41.2 (fun i k hi => hF _ _ (Or.inr (Or.inr (Or.inr (Or.inr (Or.inr hi)))))) (fun k hk => hF' _ (by unfold wu_RG; first | decide | omega)) (fun i p q => hA _ (by unfold wu_RA; first | decide | omega)) (fun i hi => hA' _ (by rcases hi with h | h <;> (unfold wu_RB; first | (subst h; decide) | omega)))⟩
  · rw [f.2 2 (hA _ (by unfold wu_RA; first | decide | omega)), g.2 109 (hA' _ (by unfold wu_RB; first | decide | omega))]; exact a1 j hj
  · rw [f.1 1 7 (hF _ _ (by unfold wu_RF; first | decide | omega)), g.1 108 3 (hF' _ (by unfold wu_RG; first | decide | omega))]; exact a2
end WTQ3
-- 91b.text.lean.txt
section WTQ4
/-! a text, on both sides -/
theorem wh_find9 (n : Nat) (hn : 4294967297 < n) {t0 a1 N : Nat} {x2 : Int32} {σ : wt_St} (hl2 : wt_ln (t0 + 2) = 60) (hN : (wt_gf σ t0 6).toInt = (N : Int)) (hN6 : N ≤ 60) (hne : ∀ w, w < N → wt_ga σ (t0 + 2) w ≠ x2) : wt_H (wp_tg_find n t0 a1 x2 σ) (fun q => q = ((-1 : Int32), σ)) := by
  have k0 : (0 : Int32).toInt = 0 := by decide
  unfold wp_tg_find
  refine wt_H_it (fun s : Int32 × wt_St => s.2 = σ ∧ 0 ≤ s.1.toInt) (fun K s I hK => ?_) n _ ⟨rfl, by show 0 ≤ ((0 : Int32)).toInt; omega⟩
  obtain ⟨i0, i1⟩ := I
  have es := wt_tnI i1
  unfold wp_tg_find_B2
  rw [i0]
  refine wt_H_if (fun c => wt_H_some rfl) (fun c => ?_)
  have c' := wt_ncle c
  have ei := wt_i1 (c := s.1) (by omega)
  refine wt_H_bh (wh_look n hn (k := Int32.toNatClampNeg s.1) (by omega) (by omega)) (fun q hq => ?_)
  subst hq
  dsimp only
  rw [if_neg (hne _ (by omega))]
  unfold wp_tg_find_B34
  exact hK _ ⟨rfl, by show 0 ≤ (s.1 + (1 : Int32)).toInt; omega⟩
theorem wh_wordOf9 (n : Nat) {a3 N : Nat} {x1 x4 : Int32} {σ : wt_St} (h4 : x4.toInt = (N : Int)) (hN : N ≤ 60) (hne : ∀ w, w < N → wt_ga σ a3 w ≠ x1) : wt_H (wp_md_wordOf_192 n a3 x1 x4 σ) (fun q => q = ((-1 : Int32), σ)) := by
  have k0 : (0 : Int32).toInt = 0 := by decide
  unfold wp_md_wordOf_192
  refine wt_H_it (fun s : Int32 × wt_St => s.2 = σ ∧ 0 ≤ s.1.toInt) (fun K s I hK => ?_) n _ ⟨rfl, by show 0 ≤ ((0 : Int32)).toInt; omega⟩
  obtain ⟨i0, i1⟩ := I
  have es := wt_tnI i1
  unfold wp_md_wordOf_192_B3
  rw [i0]
  refine wt_H_if (fun c => wt_H_some rfl) (fun c => ?_)
  have c' := wt_ncle c
  have ei := wt_i1 (c := s.1) (by omega)
  refine wt_H_gd (fun _ => ?_)
  rw [if_neg (hne _ (by omega))]
  unfold wp_md_wordOf_192_B23
  refine wt_H_it (fun t : Int32 × Int32 × wt_St => t.1 = 0 ∧ t.2.2 = σ) (fun K2 t J hK2 => ?_) n _ ⟨rfl, rfl⟩
  obtain ⟨j0, j1⟩ := J
  have E : wt_H (wp_md_wordOf_192_B76 n a3 x1 x4 s.1 t.1 K σ) (fun q => q = ((-1 : Int32), σ)) := by
    unfold wp_md_wordOf_192_B76
    rw [if_pos j0]
    exact hK _ ⟨rfl, by show 0 ≤ (s.1 + (1 : Int32)).toInt; omega⟩
  unfold wp_md_wordOf_192_B28
  rw [j1]
  exact wt_H_if (fun _ => E) (fun _ => by rw [if_pos j0]; exact E)
/-- the letters of a word are counted into a row of 26 -/
theorem wh_countInto (n : Nat) (hn : 4294967297 < n) {t0 a2 w m : Nat} {x1 : Int32} {σ : wt_St} {c : Nat} (hl : wt_ln (t0 + 1) = 540) (hl2 : wt_ln (t0 + 2) = 60) (ha : wt_ln a2 = 26) (h12 : a2 ≠ t0 + 1) (h22 : a2 ≠ t0 + 2) (hw : x1.toInt = (w : Int)) (h6 : w < 60) (hm : (wt_ga σ (t0 + 2) w).toInt = (m : Int)) (hm9 : m ≤ 9) (hL : ∀ k, k < m → 0 ≤ (wt_ga σ (t0 + 1) (9 * w + k)).toInt ∧ (wt_ga σ (t0 + 1) (9 * w + k)).toInt ≤ 25) (hc : ∀ l, l < 26 → 0 ≤ (wt_ga σ a2 l).toInt ∧ (wt_ga σ a2 l).toInt ≤ (c : Int)) (hc2 : c ≤ 1000) : wt_H (wp_tg_countInto n t0 a2 x1 σ) (fun q => wt_fr (fun _ _ => False) (fun i => i = a2) σ q ∧ ∀ l, l < 26 → (wt_ga q a2 l).toInt = (wt_ga σ a2 l).toInt + wt_ct (fun k => (wt_ga σ (t0 + 1) (9 * w + k)).toInt) (l : Int) m) := by
  have k0 : (0 : Int32).toInt = 0 := by decide
  unfold wp_tg_countInto
  refine wt_H_bh (wh_look n hn (k := w) hw (by omega)) (fun q hq => ?_)
  subst hq
  dsimp only
  refine wt_H_it (fun s : Int32 × wt_St => 0 ≤ s.1.toInt ∧ s.1.toInt ≤ (m : Int) ∧ wt_fr (fun _ _ => False) (fun i => i = a2) σ s.2 ∧ ∀ l, l < 26 → (wt_ga s.2 a2 l).toInt = (wt_ga σ a2 l).toInt + wt_ct (fun k => (wt_ga σ (t0 + 1) (9 * w + k)).toInt) (l : Int) (Int32.toNatClampNeg s.1)) (fun K s I hK => ?_) n _ ⟨by show 0 ≤ ((0 : Int32)).toInt; omega, by show ((0 : Int32)).toInt ≤ _; omega, wt_fr.rf, fun l hl => by show (wt_ga σ a2 l).toInt = (wt_ga σ a2 l).toInt + wt_ct _ _ (Int32.toNatClampNeg (0 : Int32)); rw [wt_tn0]; show (wt_ga σ a2 l).toInt = (wt_ga σ a2 l).toInt + 0; omega⟩
  obtain ⟨i0, i1, f, i2⟩ := I
  have es := wt_tnI i0
  unfold wp_tg_countInto_B12
  refine wt_H_if (fun d => ?_) (fun d => ?_)
  · have d' := wt_cle d
    have e : Int32.toNatClampNeg s.1 = m := by omega
    rw [e] at i2
    exact wt_H_some ⟨f, i2⟩
  · have d' := wt_ncle d
    have ei := wt_i1 (c := s.1) (by omega)
    have hlk := hL (Int32.toNatClampNeg s.1) (by omega)
    refine wt_H_bh (wh_letterAt n hn hl hw h6 (k := Int32.toNatClampNeg s.1) (by omega) (by omega)) (fun q hq => ?_)
    subst hq
    dsimp only
    rw [f.2 (t0 + 1) (fun h => h12 h.symm)]
    have et := wt_tnI hlk.1
    have e2 := i2 (Int32.toNatClampNeg (wt_ga σ (t0 + 1) (9 * w + Int32.toNatClampNeg s.1))) (by omega)
    have hcl := hc (Int32.toNatClampNeg (wt_ga σ (t0 + 1) (9 * w + Int32.toNatClampNeg s.1))) (by omega)
    have hbd := wt_ct_bd (fun k => (wt_ga σ (t0 + 1) (9 * w + k)).toInt) ((Int32.toNatClampNeg (wt_ga σ (t0 + 1) (9 * w + Int32.toNatClampNeg s.1)) : Nat) : Int) (Int32.toNatClampNeg s.1)
    refine wt_H_bh (wh_look n hn (k := Int32.toNatClampNeg (wt_ga σ (t0 + 1) (9 * w + Int32.toNatClampNeg s.1))) (by omega) (by omega)) (fun q hq => ?_)
    subst hq
    dsimp only
    have ep := wt_i1 (c := wt_ga s.2 a2 (Int32.toNatClampNeg (wt_ga σ (t0 + 1) (9 * w + Int32.toNatClampNeg s.1)))) (by omega)
    refine wt_H_bh (wh_put n (k := Int32.toNatClampNeg (wt_ga σ (t0 + 1) (9 * w + Int32.toNatClampNeg s.1))) (by omega) (by omega)) (fun q ε => ?_)
    refine hK _ ⟨by show 0 ≤ (s.1 + (1 : Int32)).toInt; omega, by show (s.1 + (1 : Int32)).toInt ≤ _; omega, f.sa ε rfl, fun l hl => ?_⟩
    show (wt_ga q a2 l).toInt = _ + wt_ct _ _ (Int32.toNatClampNeg (s.1 + (1 : Int32)))
    rw [show Int32.toNatClampNeg (s.1 + (1 : Int32)) = Int32.toNatClampNeg s.1 + 1 by have := wt_tnI (x := s.1 + (1 : Int32)) (by omega); omega]
    show _ = _ + (wt_ct (fun k => (wt_ga σ (t0 + 1) (9 * w + k)).toInt) (l : Int) (Int32.toNatClampNeg s.1) + if (wt_ga σ (t0 + 1) (9 * w + Int32.toNatClampNeg s.1)).toInt = (l : Int) then 1 else 0)
    by_cases hq : l = Int32.toNatClampNeg (wt_ga σ (t0 + 1) (9 * w + Int32.toNatClampNeg s.1))
    · rw [if_pos (by omega), hq, wt_v_sa ε]
      omega
    · rw [if_neg (by omega), wt_w_sa ε l hq, i2 l hl]
      omega
theorem wt_nw_tt {s z : wt_St} {W w m : Nat} {l : Int} (h : wt_tt 20 126 128 130 193 W s z) (hw : w < W) (hm : (wt_ga s 22 w).toInt = (m : Int)) : wt_ct (fun k => (wt_ga s 21 (9 * w + k)).toInt) l m = wt_nw z w l := by
  obtain ⟨a, -, -, -, -, e⟩ := h w hw
  have a' : wt_ga s 22 w = wt_ga z 126 w := a
  unfold wt_nw
  rw [← a', wt_tnN hm]
  exact wt_ct_congr m (fun k hk => by
    have e' := (e k (by show (k : Int) < (wt_ga s 22 w).toInt; omega)).1
    show (wt_ga s 21 (9 * w + k)).toInt = (wt_ga z (193 + w) k).toInt
    rw [show wt_ga s 21 (9 * w + k) = wt_ga z (193 + w) k from e'])
/-- i words of a text are read -/
def wt_xr (T : Nat) (s0 z0 : wt_St) (i : Nat) (s z : wt_St) : Prop := (wt_gf s 34 4).toInt = (T : Int) ∧ (wt_gf z 108 39).toInt = (T : Int) ∧ T < 8 ∧ wt_TO s z ∧ (∀ j, j < i → wt_ga s 35 (12 * T + j) = wt_ga z 274 j ∧ 0 ≤ (wt_ga s 35 (12 * T + j)).toInt ∧ (wt_ga s 35 (12 * T + j)).toInt < (wt_gf z 108 28).toInt) ∧ wt_gf s 1 7 = wt_gf z 108 6 ∧ wt_fr (fun i k => i = 1 ∧ 2 ≤ k) (fun i => i = 3 ∨ i = 35) s0 s ∧ (∀ j, j < 12 * T → wt_ga s 35 j = wt_ga s0 35 j) ∧ wt_fr (fun i k => i = 108 ∧ 3 ≤ k ∧ k < 8) (fun i => i = 274) z0 z
theorem wt_xr_fr {T i : Nat} {s0 z0 s s' z z' : wt_St} {F F' : Nat → Nat → Prop} {A A' : Nat → Prop} (h : wt_xr T s0 z0 i s z) (f : wt_fr F A s s') (g : wt_fr F' A' z z') (hF : ∀ i k, F i k → i = 1 ∧ 2 ≤ k ∧ k ≠ 7) (hA : ∀ i, A i → i = 3) (hF' : ∀ i k, F' i k → i = 108 ∧ 4 ≤ k ∧ k < 6) (hA' : ∀ i, ¬ A' i) : wt_xr T s0 z0 i s' z' := by
  obtain ⟨a, b, c, d, e, p, fs, o, gz⟩ := h
  have nA : ∀ i, i ≠ 3 → ¬ A i := fun i hi h => hi (hA i h)
  have nF : ∀ i k, i ≠ 1 → ¬ F i k := fun i k hi h => hi (hF i k h).1
  have nF' : ∀ k, 6 ≤ k → ¬ F' 108 k := fun k hk h => by have := (hF' 108 k h).2; omega
  refine ⟨by rw [f.1 34 4 (nF _ _ (by decide))]; exact a, by rw [g.1 108 39 (nF' _ (by omega))]; exact b, c, wt_TO_fr d f g ⟨nF _ _ (by decide), nF _ _ (by decide)⟩ (fun i p q => nA _ (by omega)) ⟨nF' _ (by omega), nF' _ (by omega)⟩ (fun i _ => hA' i), fun j hj => ?_, ?_, wt_fr.tr fs f (fun i k h => ⟨(hF i k h).1, (hF i k h).2.1⟩) (fun i h => Or.inl (hA i h)), fun j hj => ?_, wt_fr.tr gz g (fun i k h => by have := hF' i k h; (try dsimp only); omega) (fun i h => absurd h (hA' i))⟩
  · rw [f.2 35 (nA _ (by decide)), g.2 274 (hA' _), g.1 108 28 (nF' _ (by omega))]; exact e j hj
  · rw [f.1 1 7 (fun h => (hF 1 7 h).2.2 rfl), g.1 108 6 (nF' _ (by omega))]; exact p
  · rw [f.2 35 (nA _ (by decide))]; exact o j hj
set_option maxRecDepth 100000 in
set_option maxHeartbeats 4000000 in
/-- the class closes a text: what it needs of each letter -/
theorem wh_close (n : Nat) (hn : 4294967297 < n) {s z : wt_St} {T m : Nat} {x2 : Int32} (h2 : x2.toInt = (m : Int)) (hm : m ≤ 12) (hT : (wt_gf s 34 4).toInt = (T : Int)) (hT8 : T < 8) (to : wt_TO s z) (hw : ∀ j, j < m → 0 ≤ (wt_ga s 35 (12 * T + j)).toInt ∧ (wt_ga s 35 (12 * T + j)).toInt < (wt_gf z 108 28).toInt) : wt_H (wp_tx_close n 20 x2 s) (fun q => q.1 = 1 ∧ wt_fr (fun i k => i = 34 ∧ k = 4) (fun i => i = 36 ∨ i = 37 ∨ i = 38) s q.2 ∧ (wt_gf q.2 34 4).toInt = ((T + 1 : Nat) : Int) ∧ wt_ga q.2 36 T = x2 ∧ (∀ t, t ≠ T → wt_ga q.2 36 t = wt_ga s 36 t) ∧ (∀ j, j < 26 * T → wt_ga q.2 37 j = wt_ga s 37 j) ∧ ∀ l, l < 26 → (wt_ga q.2 37 (26 * T + l)).toInt = wt_sum (fun k => wt_nw z (Int32.toNatClampNeg (wt_ga s 35 (12 * T + k))) (l : Int)) m) := by
  have k0 : (0 : Int32).toInt = 0 := by decide
  have k12 : (12 : Int32).toInt = 12 := by decide
  have k26 : (26 : Int32).toInt = 26 := by decide
  obtain ⟨W, G, ⟨A1, A2, A3⟩, B, tt, gs⟩ := to
  have l38 : wt_ln 38 = 26 := by decide
  unfold wp_tx_close
  refine wt_H_bh (wh_fillRow n (a := 38)) (fun q1 h1 => ?_)
  obtain ⟨f1, c1⟩ := h1
  rw [l38] at c1
  refine wt_H_it (fun u : Int32 × wt_St => 0 ≤ u.1.toInt ∧ u.1.toInt ≤ (m : Int) ∧ wt_fr (fun _ _ => False) (fun i => i = 38) s u.2 ∧ ∀ l, l < 26 → (wt_ga u.2 38 l).toInt = wt_sum (fun k => wt_nw z (Int32.toNatClampNeg (wt_ga s 35 (12 * T + k))) (l : Int)) (Int32.toNatClampNeg u.1) ∧ 0 ≤ (wt_ga u.2 38 l).toInt ∧ (wt_ga u.2 38 l).toInt ≤ 9 * u.1.toInt) (fun K u I hK => ?_) n _ ⟨by show 0 ≤ ((0 : Int32)).toInt; omega, by show ((0 : Int32)).toInt ≤ _; omega, f1, fun l hl => by show (wt_ga q1 38 l).toInt = wt_sum _ (Int32.toNatClampNeg (0 : Int32)) ∧ 0 ≤ (wt_ga q1 38 l).toInt ∧ (wt_ga q1 38 l).toInt ≤ 9 * ((0 : Int32)).toInt; rw [wt_tn0, c1 l hl]; show ((0 : Int32)).toInt = 0 ∧ _; omega⟩
  obtain ⟨i0, i1, fu, i2⟩ := I
  have eu := wt_tnI i0
  have u34 : wt_gf u.2 34 4 = wt_gf s 34 4 := fu.1 34 4 (fun h => h)
  unfold wp_tx_close_B10
  refine wt_H_if (fun d => ?_) (fun d => ?_)
  · have d' := wt_cle d
    have em : Int32.toNatClampNeg u.1 = m := by omega
    rw [em] at i2
    refine wt_H_it (fun v : Int32 × wt_St => 0 ≤ v.1.toInt ∧ wt_fr (fun _ _ => False) (fun i => i = 37) u.2 v.2 ∧ (∀ j, j < 26 * T → wt_ga v.2 37 j = wt_ga s 37 j) ∧ ∀ l : Nat, (l : Int) < v.1.toInt → wt_ga v.2 37 (26 * T + l) = wt_ga u.2 38 l) (fun K v J hK => ?_) n _ ⟨by show 0 ≤ ((0 : Int32)).toInt; omega, wt_fr.rf, fun j _ => fu.2 37 (by decide) j, fun l hl => absurd (show (l : Int) < ((0 : Int32)).toInt from hl) (by omega)⟩
    obtain ⟨j0, fv, jo, j1⟩ := J
    have ev := wt_tnI j0
    have v34 : wt_gf v.2 34 4 = wt_gf s 34 4 := (fv.1 34 4 (fun h => h)).trans u34
    unfold wp_tx_close_B47
    rw [v34]
    refine wt_H_if (fun g => ?_) (fun g => ?_)
    · have g' := wt_cle g
      refine wt_H_bh (wh_put n (k := T) hT (by rw [show wt_ln 36 = 8 from by decide]; exact hT8)) (fun q4 ε4 => ?_)
      have f4 := wt_fr_sa ε4
      have e34 : wt_gf q4 34 4 = wt_gf s 34 4 := (f4.1 34 4 (fun h => h)).trans v34
      rw [e34]
      obtain ⟨q5, ε5⟩ : ∃ o : wt_St, o = wt_sf q4 34 4 ((wt_gf s 34 4) + (1 : Int32)) := ⟨_, rfl⟩
      rw [← ε5]
      have f5 := wt_fr_sf ε5
      have e1 := wt_i1 (c := wt_gf s 34 4) (by omega)
      refine wt_H_some ⟨rfl, (((wt_frw fu (fun i k h => h.elim) (fun i h => by (try dsimp only at h); omega)).tr fv (fun i k h => h.elim) (fun i h => by (try dsimp only at h); omega)).sa ε4 (by first | decide | ((try dsimp only); omega))).sf ε5 ⟨rfl, rfl⟩, ?_, ?_, fun t ht => ?_, fun j hj => ?_, fun l hl => ?_⟩
      · rw [wt_v_sf ε5]; omega
      · rw [f5.2 36 (fun h => h)]; exact wt_v_sa ε4
      · rw [f5.2 36 (fun h => h), wt_w_sa ε4 t ht, fv.2 36 (by decide)]; exact fu.2 36 (by decide) t
      · rw [f5.2 37 (fun h => h), f4.2 37 (by decide)]; exact jo j hj
      · rw [f5.2 37 (fun h => h), f4.2 37 (by decide), j1 l (by omega)]; exact (i2 l hl).1
    · have g' := wt_ncle g
      refine wt_H_gd (fun _ => ?_)
      have ei := wt_i1 (c := v.1) (by omega)
      have em1 := wt_mulR (x := wt_gf s 34 4) k26 (by omega) (by omega)
      have ea := wt_addE (x := (wt_gf s 34 4) * (26 : Int32)) (y := v.1) (by omega) (by omega)
      refine wt_H_bh (wh_put n (k := 26 * T + Int32.toNatClampNeg v.1) (by omega) (by rw [show wt_ln 37 = 208 from by decide]; omega)) (fun q ε => ?_)
      refine hK _ ⟨by show 0 ≤ (v.1 + (1 : Int32)).toInt; omega, fv.sa ε rfl, fun j hj => ?_, fun l hl => ?_⟩
      · show wt_ga q 37 j = _
        rw [wt_w_sa ε j (by omega)]; exact jo j hj
      · have hl' : (l : Int) < (v.1 + (1 : Int32)).toInt := hl
        show wt_ga q 37 (26 * T + l) = _
        by_cases hc : l = Int32.toNatClampNeg v.1
        · rw [hc, wt_v_sa ε]; exact fv.2 38 (by decide) _
        · rw [wt_w_sa ε _ (by omega)]; exact j1 l (by omega)
  · have d' := wt_ncle d
    have ei := wt_i1 (c := u.1) (by omega)
    rw [u34]
    have em1 := wt_mulR (x := wt_gf s 34 4) k12 (by omega) (by omega)
    have ea := wt_addE (x := (wt_gf s 34 4) * (12 : Int32)) (y := u.1) (by omega) (by omega)
    refine wt_H_bh (wh_look n hn (k := 12 * T + Int32.toNatClampNeg u.1) (by omega) (by rw [show wt_ln 35 = 96 from by decide]; omega)) (fun q hq => ?_)
    subst hq
    dsimp only
    rw [fu.2 35 (by decide)]
    have hwk := hw (Int32.toNatClampNeg u.1) (by omega)
    have ew := wt_tnI hwk.1
    obtain ⟨t1, -, -, t4, -, t6⟩ := tt (Int32.toNatClampNeg (wt_ga s 35 (12 * T + Int32.toNatClampNeg u.1))) (by omega)
    obtain ⟨mw, emw⟩ : ∃ mw : Nat, (wt_ga s 22 (Int32.toNatClampNeg (wt_ga s 35 (12 * T + Int32.toNatClampNeg u.1)))).toInt = (mw : Int) := ⟨_, (wt_tnI (by have t4' : 1 ≤ (wt_ga s 22 (Int32.toNatClampNeg (wt_ga s 35 (12 * T + Int32.toNatClampNeg u.1)))).toInt ∧ _ := t4; omega)).symm⟩
    have t4' : 1 ≤ (wt_ga s 22 (Int32.toNatClampNeg (wt_ga s 35 (12 * T + Int32.toNatClampNeg u.1)))).toInt ∧ (wt_ga s 22 (Int32.toNatClampNeg (wt_ga s 35 (12 * T + Int32.toNatClampNeg u.1)))).toInt ≤ 9 := t4
    refine wt_H_bh (wh_countInto n hn (t0 := 20) (a2 := 38) (w := Int32.toNatClampNeg (wt_ga s 35 (12 * T + Int32.toNatClampNeg u.1))) (m := mw) (c := 108) (by decide) (by decide) l38 (by decide) (by decide) (by omega) (by omega) (by rw [fu.2 (20 + 2) (by decide)]; exact emw) (by omega) (fun k hk => ?_) (fun l hl => ?_) (by omega)) (fun q hq => ?_)
    · rw [fu.2 (20 + 1) (by decide)]
      exact (t6 k (by show (k : Int) < (wt_ga s 22 _).toInt; omega)).2
    · have := (i2 l hl).2
      omega
    · obtain ⟨fq, cq⟩ := hq
      refine hK _ ⟨by show 0 ≤ (u.1 + (1 : Int32)).toInt; omega, by show (u.1 + (1 : Int32)).toInt ≤ _; omega, wt_fr.tr fu fq (fun i k h => h) (fun i h => h), fun l hl => ?_⟩
      show (wt_ga q 38 l).toInt = wt_sum _ (Int32.toNatClampNeg (u.1 + (1 : Int32))) ∧ 0 ≤ (wt_ga q 38 l).toInt ∧ (wt_ga q 38 l).toInt ≤ 9 * (u.1 + (1 : Int32)).toInt
      rw [show Int32.toNatClampNeg (u.1 + (1 : Int32)) = Int32.toNatClampNeg u.1 + 1 by have := wt_tnI (x := u.1 + (1 : Int32)) (by omega); omega, cq l hl]
      have e21 : (fun k => (wt_ga u.2 (20 + 1) (9 * Int32.toNatClampNeg (wt_ga s 35 (12 * T + Int32.toNatClampNeg u.1)) + k)).toInt) = (fun k => (wt_ga s 21 (9 * Int32.toNatClampNeg (wt_ga s 35 (12 * T + Int32.toNatClampNeg u.1)) + k)).toInt) := by
        funext k
        rw [fu.2 (20 + 1) (by decide)]
      rw [e21]
      have hnw := wt_nw_tt (l := (l : Int)) tt (w := Int32.toNatClampNeg (wt_ga s 35 (12 * T + Int32.toNatClampNeg u.1))) (m := mw) (by omega) emw
      have hbd := wt_ct_bd (fun k => (wt_ga s 21 (9 * Int32.toNatClampNeg (wt_ga s 35 (12 * T + Int32.toNatClampNeg u.1)) + k)).toInt) (l : Int) mw
      have h3 := i2 l hl
      show _ = wt_sum _ (Int32.toNatClampNeg u.1) + wt_nw z (Int32.toNatClampNeg (wt_ga s 35 (12 * T + Int32.toNatClampNeg u.1))) (l : Int) ∧ _
      rw [← hnw]
      omega
end WTQ4
-- 91c.text2.lean.txt
section WTQ5
theorem wt_HH_ofA {α β : Type} {p : Option α} {p' : Option β} {P : α → Prop} {P' : β → Prop} (h : wt_H p P) (h' : wt_H p' P') : wt_HH p p' (fun a b => P a ∧ P' b) := fun a b e e' => ⟨h a e, h' b e'⟩
set_option maxRecDepth 100000 in
set_option maxHeartbeats 4000000 in
/-- the reference takes a text over -/
theorem wh_textEnd (n : Nat) {z : wt_St} {T m : Nat} {x : Int32} (h0 : wt_gf z 108 5 = 0) (hx : x.toInt = (m : Int)) (hm : m ≤ 12) (hT : (wt_gf z 108 39).toInt = (T : Int)) (hT8 : T < 8) : wt_H (wp_md_text_B195 n x z) (fun q => q.1 = wt_gf z 108 39 ∧ wt_fr (fun i k => i = 108 ∧ (k = 3 ∨ k = 39)) (fun i => i = 253 ∨ i = 255 + T) z q.2 ∧ wt_gf q.2 108 3 = wt_gf z 108 6 ∧ (wt_gf q.2 108 39).toInt = ((T + 1 : Nat) : Int) ∧ wt_ga q.2 253 T = x ∧ (∀ t, t ≠ T → wt_ga q.2 253 t = wt_ga z 253 t) ∧ ∀ j, j < m → wt_ga q.2 (255 + T) j = wt_ga z 274 j) := by
  have k0 : (0 : Int32).toInt = 0 := by decide
  have k1 : (1 : Int32).toInt = 1 := by decide
  have et : Int32.toNatClampNeg (wt_gf z 108 39) = T := wt_tnN hT
  unfold wp_md_text_B195
  obtain ⟨s1, ε1⟩ : ∃ o : wt_St, o = wt_sf z 108 3 (wt_gf z 108 6) := ⟨_, rfl⟩
  rw [← ε1]
  have f1 := wt_fr_sf ε1
  have e5 : wt_gf s1 108 5 = wt_gf z 108 5 := f1.1 108 5 (by decide)
  have e39 : wt_gf s1 108 39 = wt_gf z 108 39 := f1.1 108 39 (by decide)
  rw [e5, if_pos h0, e39, et]
  refine wt_H_gd (fun _ => ?_)
  obtain ⟨s2, ε2⟩ : ∃ o : wt_St, o = wt_sa s1 253 T x := ⟨_, rfl⟩
  rw [← ε2]
  have f2 := wt_fr_sa ε2
  refine wt_H_it (fun t : Int32 × wt_St => 0 ≤ t.1.toInt ∧ wt_fr (fun _ _ => False) (fun i => i = 255 + T) s2 t.2 ∧ ∀ j : Nat, (j : Int) < t.1.toInt → wt_ga t.2 (255 + T) j = wt_ga z 274 j) (fun K t I hK => ?_) n _ ⟨by show 0 ≤ ((0 : Int32)).toInt; omega, wt_fr.rf, fun k hk => absurd (show (k : Int) < ((0 : Int32)).toInt from hk) (by omega)⟩
  obtain ⟨i0, ft, i1⟩ := I
  have ett := wt_tnI i0
  have g39 : wt_gf t.2 108 39 = wt_gf z 108 39 := (ft.1 108 39 (fun h => h)).trans ((f2.1 108 39 (fun h => h)).trans e39)
  unfold wp_md_text_B230
  rw [g39, et]
  refine wt_H_if (fun c => ?_) (fun c => ?_)
  · have c' := wt_cle c
    obtain ⟨s3, ε3⟩ : ∃ o : wt_St, o = wt_sf t.2 108 39 ((wt_gf z 108 39) + (1 : Int32)) := ⟨_, rfl⟩
    rw [← ε3]
    have f3 := wt_fr_sf ε3
    have e1 := wt_i1 (c := wt_gf z 108 39) (by omega)
    have v39 := wt_v_sf ε3
    have es := wt_subE (x := wt_gf s3 108 39) (y := (1 : Int32)) (by rw [v39]; omega) (by rw [v39]; omega)
    refine wt_H_some ⟨wt_eqI (by (try dsimp only); rw [es, v39]; omega), ((((wt_fr.rf.sf ε1 (by first | decide | ((try dsimp only); omega))).sa ε2 (by first | decide | ((try dsimp only); omega))).tr ft (fun i k h => h.elim) (fun i h => Or.inr h)).sf ε3 (by first | decide | ((try dsimp only); omega))), ?_, ?_, ?_, fun t' ht' => ?_, fun j hj => ?_⟩
    · rw [f3.1 108 3 (by decide), ft.1 108 3 (fun h => h), f2.1 108 3 (fun h => h)]; exact wt_v_sf ε1
    · rw [v39]; omega
    · rw [f3.2 253 (fun h => h), ft.2 253 (by (try dsimp only); omega)]; exact wt_v_sa ε2
    · rw [f3.2 253 (fun h => h), ft.2 253 (by (try dsimp only); omega), wt_w_sa ε2 t' ht']; exact f1.2 253 (fun h => h) t'
    · rw [f3.2 (255 + T) (fun h => h)]; exact i1 j (by omega)
  · have c' := wt_ncle c
    have ei := wt_i1 (c := t.1) (by omega)
    refine wt_H_gd (fun _ => ?_)
    refine wt_H_gd (fun _ => ?_)
    refine wt_H_gd (fun _ => ?_)
    obtain ⟨s3, ε3⟩ : ∃ o : wt_St, o = wt_sa t.2 (255 + T) (Int32.toNatClampNeg t.1) (wt_ga t.2 274 (Int32.toNatClampNeg t.1)) := ⟨_, rfl⟩
    rw [← ε3]
    refine hK _ ⟨by show 0 ≤ (t.1 + (1 : Int32)).toInt; omega, ft.sa ε3 rfl, fun j hj => ?_⟩
    have hj' : (j : Int) < (t.1 + (1 : Int32)).toInt := hj
    show wt_ga s3 _ j = _
    by_cases hc : j = Int32.toNatClampNeg t.1
    · rw [hc, wt_v_sa ε3, ft.2 274 (by (try dsimp only); omega), f2.2 274 (by decide)]
      exact f1.2 274 (fun h => h) _
    · rw [wt_w_sa ε3 j hc]; exact i1 j (by omega)
theorem wt_sp_so {t a b c L W m j : Nat} {β : Nat → Int32} {s z : wt_St} {x : Int32} (tt : wt_tt t a b c L W s z) (hx : x.toInt = (m : Int)) (SP : ∀ i, i < m → wt_ga s 3 i = β (j + i) - (97 : Int32)) (w : Nat) (hw : w < W) : wt_sp s t 3 x m w ↔ wt_so β z a L x m j w := by
  obtain ⟨c1, -, -, -, -, c6⟩ := tt w hw
  constructor
  · rintro ⟨x1, x2⟩
    refine ⟨c1.symm.trans x1, fun i hi => ?_⟩
    rw [← (c6 i (by rw [x1, hx]; omega)).1, x2 i hi]
    exact SP i hi
  · rintro ⟨x1, x2⟩
    have x1' : wt_ga s (t + 2) w = x := c1.trans x1
    refine ⟨x1', fun i hi => ?_⟩
    rw [SP i hi, ← x2 i hi]
    exact (c6 i (by rw [x1', hx]; omega)).1
/-- a word is looked for in the tongue that stands, on both sides -/
theorem wr_findW (n : Nat) (hn : 4294967297 < n) {β : Nat → Int32} {e j j2 : Nat} {s z : wt_St} {x : Int32} (to : wt_TO s z) (rv : wt_rv β e j z) (hx : x.toInt = (j2 : Int) - j) (hj : j ≤ j2) (he : j2 ≤ e) (sm : ∀ i, j ≤ i → i < j2 → 97 ≤ (β i).toInt ∧ (β i).toInt ≤ 122) (sp : ∀ i, i < 9 → j + i < j2 → (wt_ga s 3 i).toInt = (β (j + i)).toInt - 97) : wt_HH (wp_tg_find n 20 3 x s) (wp_md_wordOf_192 n 126 x (wt_gf z 108 28) z) (fun q y => q.2 = s ∧ y.2 = z ∧ q.1 = y.1 ∧ (q.1 = -1 ∨ (0 ≤ q.1.toInt ∧ q.1.toInt < (wt_gf z 108 28).toInt))) := by
  obtain ⟨W, G, ⟨a1, a2, a3⟩, -, tt, -⟩ := to
  have k97 : (97 : Int32).toInt = 97 := by decide
  have hb := rv.2.2.2
  by_cases h9 : j2 - j ≤ 9
  · refine wt_HH_of (wh_find n hn (N := W) (m := j2 - j) (by decide) (by decide) wt_ln3 a1 a3 (by omega) h9) (wh_wordOf_192 n (N := W) (m := j2 - j) rv (by omega) h9 (by omega) a2 a3) (fun q y hq hy => ?_)
    have SP : ∀ i, i < j2 - j → wt_ga s 3 i = β (j + i) - (97 : Int32) := fun i hi => by
      have hb := sm (j + i) (by omega) (by omega)
      have es := wt_subE (x := β (j + i)) (y := (97 : Int32)) (by omega) (by omega)
      have := sp i (by omega) (by omega)
      exact wt_eqI (by omega)
    have e := wt_fst_u hq.2 hy.2 (fun w hw => wt_sp_so tt (by omega) SP w hw)
    refine ⟨hq.1, hy.1, e, ?_⟩
    rcases hq.2 with ⟨w, w1, w2, -⟩ | ⟨w1, -⟩
    · exact Or.inr (by omega)
    · exact Or.inl w1
  · have hne : ∀ w, w < W → wt_ga s 22 w ≠ x := fun w hw h => by
      have t4 : 1 ≤ (wt_ga s 22 w).toInt ∧ (wt_ga s 22 w).toInt ≤ 9 := (tt w hw).2.2.2.1
      rw [h] at t4
      omega
    refine wt_HH_of (wh_find9 n hn (N := W) (by decide) a1 a3 hne) (wh_wordOf9 n (N := W) a2 a3 (fun w hw h => hne w hw ?_)) (fun q y hq hy => ?_)
    · have t1 : wt_ga s 22 w = wt_ga z 126 w := (tt w hw).1
      rw [t1]; exact h
    · rw [hq, hy]
      exact ⟨rfl, rfl, rfl, Or.inl rfl⟩
theorem wr_wordAny (n : Nat) {β : Nat → Int32} {e j m : Nat} {s z : wt_St} {x1 x4 : Int32} (rv : wt_rv β e j z) (hx : x1.toInt = (m : Int)) (hm : m ≤ 9) (he : j + m ≤ e) (to : wt_TO s z) (e4 : x4 = wt_gf z 108 28) : wt_H (wp_md_wordOf_192 n 126 x1 x4 z) (fun q => q.2 = z) := by
  obtain ⟨W, G, ⟨a1, a2, a3⟩, -⟩ := to
  subst e4
  exact (wh_wordOf_192 n (N := W) rv hx hm he a2 a3).imp (fun q hq => hq.1)
/-- what reading a text leaves -/
def wu_xq (z0 : wt_St) (T : Nat) (q y : Int32 × wt_St) : Prop := wt_gf q.2 1 7 = wt_gf y.2 108 3 ∧ wt_gf y.2 108 0 = wt_gf z0 108 0 ∧ wu_TX q.2 y.2 ∧ ((q.1 = 0 ∧ ∃ f : Nat, 0 < f ∧ f ≤ 3 ∧ (wt_gf q.2 1 6).toInt = (f : Int) ∧ y.1.toInt = (f : Int) - 10) ∨ (q.1 = 1 ∧ (wt_gf q.2 34 4).toInt = ((T + 1 : Nat) : Int) ∧ y.1.toInt = (T : Int)))
/-- the old texts stand as they are -/
theorem wu_old {s0 z0 q y : wt_St} {T : Nat} {Fc Fm : Nat → Nat → Prop} {Ac Am : Nat → Prop} (rz0 : wt_RI z0) (tx0 : wu_TX s0 z0) (hT : (wt_gf z0 108 39).toInt = (T : Int)) (fq : wt_fr Fc Ac s0 q) (fy : wt_fr Fm Am z0 y) (c1 : ¬ Fc 34 4) (c2 : ∀ i, 35 < i → i < 38 → ¬ Ac i) (c3 : ∀ j, j < 12 * T → wt_ga q 35 j = wt_ga s0 35 j) (c4 : ∀ k, 8 ≤ k → ¬ Fm 108 k) (c5 : ∀ i, i ≠ 274 → ¬ Am i) : wu_TX q y := by
  have g39 : 0 ≤ (wt_gf z0 108 39).toInt ∧ (wt_gf z0 108 39).toInt ≤ 8 := wt_R_gf rz0 7 rfl
  refine ⟨by rw [fq.1 34 4 c1, fy.1 108 39 (c4 _ (by omega))]; exact tx0.1, fun t ht => ?_⟩
  rw [fy.1 108 39 (c4 _ (by omega))] at ht
  exact wu_X1_eq (tx0.2 t ht) rz0 (by omega) (fq.2 36 (c2 _ (by omega) (by omega)) t) (fun i hi => c3 _ (by omega)) (fun l _ => fq.2 37 (c2 _ (by omega) (by omega)) _) (fy.1 108 28 (c4 _ (by omega))) (fy.2 253 (c5 _ (by decide)) t) (fy.2 (255 + t) (c5 _ (by omega))) (fun i hi => fy.2 i (c5 _ (by omega)))
set_option maxRecDepth 100000 in
set_option maxHeartbeats 8000000 in
theorem wr_textLoop (n m m' : Nat) (hn : 4294967297 < n) {β : Nat → Int32} {e k j T : Nat} {s0 z0 s z : wt_St} (rz0 : wt_RI z0) (tx0 : wu_TX s0 z0) (tv : wt_tv β e k s) (r : wt_run β e wt_bl k j) (rv : wt_rv β e j z) (h0 : wt_gf z 108 5 = 0) (xr : wt_xr T s0 z0 0 s z) : wt_HH (wt_it (wp_tx_fill_B2 n 20) m ((0 : Int32), s)) (wt_it (wp_md_text_B62 n) m' ((0 : Int32), z)) (wu_xq z0 T) := by
  have k0 : (0 : Int32).toInt = 0 := by decide
  have k1 : (1 : Int32).toInt = 1 := by decide
  have k10 : (10 : Int32).toInt = 10 := by decide
  have k12 : (12 : Int32).toInt = 12 := by decide
  have hT0 : (wt_gf z0 108 39).toInt = (T : Int) := by rw [← xr.2.2.2.2.2.2.2.2.1 108 39 (by decide)]; exact xr.2.1
  refine wt_HH_it (fun (t : Int32 × wt_St) (y : Int32 × wt_St) => ∃ i : Nat, t.1.toInt = (i : Int) ∧ y.1 = t.1 ∧ i ≤ 12 ∧ ∃ k j, wt_tv β e k t.2 ∧ wt_run β e wt_bl k j ∧ wt_rv β e j y.2 ∧ wt_gf y.2 108 5 = 0 ∧ wt_xr T s0 z0 i t.2 y.2) (fun K K' t y I hK => ?_) m m' _ _ ⟨0, by show ((0 : Int32)).toInt = _; omega, rfl, by omega, k, j, tv, r, rv, h0, xr⟩
  obtain ⟨i, i1, i2, i3, k, j, tv, r, rv, h0, xr⟩ := I
  -- a fault, on both sides
  have WR : ∀ (f : Nat) (a x3 x4 : Int32) (q z1 : wt_St) (K2 : Int32 × wt_St → Option (Int32 × wt_St)), a.toInt = (f : Int) → 0 < f → f ≤ 3 → wt_flt q f j → wt_rv β e j z1 → wt_gf z1 108 5 = 0 → wt_xr T s0 z0 i t.2 z1 → wt_fr (fun i k => i = 1 ∧ 4 ≤ k) (fun i => i = 3) t.2 q → wt_HH (some ((0 : Int32), q)) ((wp_md_wrong n a (wt_gf z1 108 4) z1).bind fun q4 => wp_md_text_B157 n t.1 x3 x4 K2 q4) (wu_xq z0 T) := by
    intro f a x3 x4 q z1 K2 ha hf hf3 hq rv1 hz xr1 hfq
    refine wt_HH_r (wh_wrong n hz ha rv1.2.2.1) (fun z2 h2 => ?_)
    obtain ⟨hz2, fz2⟩ := h2
    unfold wp_md_text_B157
    rw [if_neg (wt_frt_nz hz2 hf)]
    unfold wp_md_text_B195
    obtain ⟨z3, ε3⟩ : ∃ o : wt_St, o = wt_sf z2 108 3 (wt_gf z2 108 6) := ⟨_, rfl⟩
    rw [← ε3]
    have g3 := wt_fr_sf ε3
    have e53 : wt_gf z3 108 5 = wt_gf z2 108 5 := g3.1 108 5 (by decide)
    rw [e53, if_neg (wt_frt_nz hz2 hf)]
    have h25 := hz2.1
    have es := wt_subE (x := wt_gf z2 108 5) (y := (10 : Int32)) (by omega) (by omega)
    obtain ⟨-, -, -, -, -, -, fs, o, gz⟩ := xr1
    have GZ : wt_fr (fun i k => i = 108 ∧ 3 ≤ k ∧ k < 8) (fun i => i = 274) z0 z3 := (wt_fr.tr gz fz2 (fun i k h => by (try dsimp only at h); omega) (fun i h => h.elim)).sf ε3 (by first | decide | ((try dsimp only); omega))
    refine wt_HH_some ⟨?_, GZ.1 108 0 (by decide), wu_old rz0 tx0 hT0 (wt_fr.tr fs hfq (fun i k h => by (try dsimp only at h); omega) (fun i h => Or.inl h)) GZ (by decide) (fun i p q => by (try dsimp only); omega) (fun j hj => by rw [hfq.2 35 (by decide)]; exact o j hj) (fun k hk => by (try dsimp only); omega) (fun i h => h), Or.inl ⟨rfl, f, hf, hf3, hq.1, ?_⟩⟩
    · show wt_gf q 1 7 = wt_gf z3 108 3
      rw [wt_v_sf ε3]
      exact wt_eqI (hq.2.trans hz2.2.symm)
    · show ((wt_gf z2 108 5) - (10 : Int32)).toInt = _
      omega
  have t2 := rv.2.1
  have t3 := rv.2.2.1
  have hje := rv.2.2.2
  unfold wp_tx_fill_B2 wp_md_text_B62
  rw [if_neg (fun c => by have := wt_clt c; omega), if_pos h0, i2]
  refine wt_HH_l (wh_over n hn tv) (fun q2 h2 => ?_)
  obtain ⟨j', r', tv', st', fr', hc⟩ := h2
  have ej : j' = j := wt_run_u r' r
  rw [ej] at tv' st' hc
  have xr2 : wt_xr T s0 z0 i q2.2 y.2 := wt_xr_fr xr fr' wt_fr.rf (F' := fun _ _ => False) (A' := fun _ => False) (fun i k h => by (try dsimp only at h); omega) (fun i h => h.elim) (fun i k h => h.elim) (fun i h => h)
  have W2 : wt_fr (fun i k => i = 1 ∧ 4 ≤ k) (fun i => i = 3) t.2 q2.2 := wt_frw fr' (fun i k h => by (try dsimp only at h); omega) (fun i h => h.elim)
  rcases hc with ⟨c1, c2⟩ | ⟨c1, c2⟩
  · rw [if_pos c1, if_pos (Int32.lt_iff_toInt_lt.mpr (by omega))]
    unfold wp_md_text_B84
    refine wt_HH_l (wh_takeWord n hn tv') (fun q4 h4 => ?_)
    obtain ⟨jj, j2, s1, s2, tv4, st4, hc4⟩ := h4
    have ejj : jj = j := wt_run_u s1 (wt_run_self r)
    rw [ejj] at s2 st4 hc4
    refine wt_HH_r (wh_lettersHere n rv) (fun y15 h15 => ?_)
    obtain ⟨u, u2, p1, p2, rv15, e15, f15⟩ := h15
    have eu : u = j := wt_run_u p1 (wt_run_self r)
    rw [eu] at p2 rv15 e15
    have eu2 : u2 = j2 := wt_run_u p2 s2
    rw [eu2] at e15
    have h015 : wt_gf y15.2 108 5 = 0 := (f15.1 108 5 (by (try dsimp only); omega)).trans h0
    have xr15 : wt_xr T s0 z0 i q2.2 y15.2 := wt_xr_fr xr2 wt_fr.rf f15 (F := fun _ _ => False) (A := fun _ => False) (fun i k h => h.elim) (fun i h => h.elim) (fun i k h => by (try dsimp only at h); omega) (fun i h => h)
    have xrt15 : wt_xr T s0 z0 i t.2 y15.2 := wt_xr_fr xr wt_fr.rf f15 (F := fun _ _ => False) (A := fun _ => False) (fun i k h => h.elim) (fun i h => h.elim) (fun i k h => by (try dsimp only at h); omega) (fun i h => h)
    have tb4 := tv4.2.2.2
    have t34 := tv4.2.2.1
    rcases hc4 with ⟨e2, q0, fl, ff4⟩ | ⟨lt, q0, ff4, sp⟩
    · rw [if_pos q0]
      refine wt_HH_r (wr_wordAny n (x4 := wt_gf y15.2 108 28) (β := β) rv15 (x1 := y15.1) (m := 0) (by omega) (by omega) (by omega) xr15.2.2.2.1 rfl) (fun y16 h16 => ?_)
      rw [h16, if_pos (wt_eqI (a := y15.1) (b := (0 : Int32)) (by omega))]
      exact WR 1 _ _ _ _ _ _ (by decide) (by omega) (by omega) fl rv15 h015 xrt15 (wt_fr.tr W2 ff4 (fun i k h => h) (fun i h => h))
    · rw [if_neg (by rw [q0]; decide)]
      unfold wp_tp_wordLength
      refine wt_HH_l (wt_H_some (Q := fun q => q = ((wt_gf q4.2 1 4) - (wt_gf q4.2 1 5), q4.2)) rfl) (fun q6 h6 => ?_)
      subst h6
      dsimp only
      have el := wt_subE (x := wt_gf q4.2 1 4) (y := wt_gf q4.2 1 5) (by omega) (by omega)
      have exy : (wt_gf q4.2 1 4) - (wt_gf q4.2 1 5) = y15.1 := wt_eqI (by omega)
      rw [exy]
      have xr4 : wt_xr T s0 z0 i q4.2 y15.2 := wt_xr_fr xr15 ff4 wt_fr.rf (F' := fun _ _ => False) (A' := fun _ => False) (fun i k h => by (try dsimp only at h); omega) (fun i h => h) (fun i k h => h.elim) (fun i h => h)
      refine wt_HH_b (wr_findW n hn (j := j) (j2 := j2) xr4.2.2.2.1 rv15 e15 (by omega) (by omega) (fun i h1 h2 => wt_sm_b s2 h1 h2) sp) (fun q7 y16 h716 => ?_)
      obtain ⟨g1, g2, g3, g4⟩ := h716
      rw [g1, g2, g3, if_neg (show ¬ y15.1 = 0 from fun h => by have := wt_ceq h; omega)]
      have WQ : ∀ q : wt_St, wt_fr (fun i k => i = 1 ∧ (k = 6 ∨ k = 7)) (fun _ => False) q4.2 q → wt_fr (fun i k => i = 1 ∧ 4 ≤ k) (fun i => i = 3) t.2 q := fun q hq => wt_fr.tr (wt_fr.tr W2 ff4 (fun i k h => by (try dsimp only at h); omega) (fun i h => h)) hq (fun i k h => by (try dsimp only at h); omega) (fun i h => h.elim)
      by_cases hm1 : y16.1 = (-1 : Int32)
      · rw [if_pos hm1, if_pos hm1]
        refine wt_HH_l (wh_fail n (x := (2 : Int32)) (f := 2) (by decide) st4) (fun q12 h12 => ?_)
        rw [h12.1]
        exact WR 2 _ _ _ _ _ _ (by decide) (by omega) (by omega) h12.2.1 rv15 h015 xrt15 (WQ _ h12.2.2)
      · rw [if_neg hm1, if_neg hm1]
        rw [g3] at g4
        have g4' : 0 ≤ y16.1.toInt ∧ y16.1.toInt < (wt_gf y15.2 108 28).toInt := g4.resolve_left hm1
        by_cases h12 : i = 12
        · rw [if_neg (fun h => by have := wt_clt h; omega), if_pos (wt_eqI (by omega))]
          refine wt_HH_l (wh_fail n (x := (3 : Int32)) (f := 3) (by decide) st4) (fun q12 hq12 => ?_)
          rw [hq12.1]
          have R := WR 3 (3 : Int32) y15.1 y16.1 q12.2 y15.2 K' (by decide) (by omega) (by omega) hq12.2.1 rv15 h015 xrt15 (WQ _ hq12.2.2)
          exact R
        · rw [if_pos (Int32.lt_iff_toInt_lt.mpr (by omega)), if_neg (fun h => by have := wt_ceq h; omega)]
          obtain ⟨A1, A2, A3, A4, A5, A6, A7, A8, A9⟩ := xr4
          have em := wt_mulR (x := wt_gf q4.2 34 4) k12 (by omega) (by omega)
          have ea := wt_addE (x := (wt_gf q4.2 34 4) * (12 : Int32)) (y := t.1) (by omega) (by omega)
          refine wt_HH_l (wh_put n (k := 12 * T + i) (by omega) (by rw [show wt_ln 35 = 96 from by decide]; omega)) (fun q10 ε => ?_)
          have f10 := wt_fr_sa ε
          unfold wp_md_text_B157
          rw [if_pos h015]
          refine wt_HH_gr (fun _ => ?_)
          have eti : Int32.toNatClampNeg t.1 = i := wt_tnN i1
          rw [eti]
          obtain ⟨z1, δ1⟩ : ∃ o : wt_St, o = wt_sa y15.2 274 i y16.1 := ⟨_, rfl⟩
          rw [← δ1]
          have d1 := wt_fr_sa δ1
          have e4 : wt_gf z1 108 4 = wt_gf y15.2 108 4 := d1.1 108 4 (fun h => h)
          have e154 := rv15.2.2.1
          rw [e4]
          have ea2 := wt_addE (x := wt_gf y15.2 108 4) (y := y15.1) (by omega) (by omega)
          obtain ⟨z2, δ2⟩ : ∃ o : wt_St, o = wt_sf z1 108 4 ((wt_gf y15.2 108 4) + y15.1) := ⟨_, rfl⟩
          rw [← δ2]
          have rv2 : wt_rv β e j2 z2 := wt_rv_adv (wt_rv_fr rv15 d1 (by decide) (fun h => h) (fun h => h)) δ2 (by omega) (by omega)
          refine wt_HH_r (wh_blanks n rv2) (fun w hw => ?_)
          obtain ⟨j3, r3, rv3, fr3⟩ := hw
          have FZ : wt_fr (fun i k => i = 108 ∧ k = 4) (fun i => i = 274) y15.2 w := ((wt_fr.rf.sa δ1 (by first | decide | ((try dsimp only); omega))).sf δ2 (by first | decide | ((try dsimp only); omega))).tr fr3 (fun i k h => h) (fun i h => h.elim)
          have ei := wt_i1 (c := t.1) (by omega)
          have w274 : ∀ j', wt_ga w 274 j' = wt_ga z1 274 j' := fun j' => by rw [fr3.2 274 (fun h => h)]; exact (wt_fr_sf δ2).2 274 (fun h => h) j'
          refine hK _ _ ⟨i + 1, by show (t.1 + (1 : Int32)).toInt = _; omega, rfl, by omega, j2, j3, wt_tv_fr tv4 f10 (by decide) (fun h => h) (fun h => h), r3, rv3, (FZ.1 108 5 (by decide)).trans h015, ⟨?_, ?_, A3, wt_TO_fr A4 f10 FZ ⟨fun h => h, fun h => h⟩ (fun i p q => by (try dsimp only); omega) ⟨by decide, by decide⟩ (fun i h => by (try dsimp only); omega), fun j' hj' => ?_, ?_, wt_fr.tr A7 f10 (fun i k h => h.elim) (fun i h => Or.inr h), fun j' hj' => ?_, wt_fr.tr A9 FZ (fun i k h => by (try dsimp only at h); omega) (fun i h => h)⟩⟩
          · show (wt_gf q10 34 4).toInt = _
            rw [f10.1 34 4 (fun h => h)]; exact A1
          · show (wt_gf w 108 39).toInt = _
            rw [FZ.1 108 39 (by decide)]; exact A2
          · show wt_ga q10 35 (12 * T + j') = wt_ga w 274 j' ∧ 0 ≤ (wt_ga q10 35 (12 * T + j')).toInt ∧ (wt_ga q10 35 (12 * T + j')).toInt < (wt_gf w 108 28).toInt
            rw [FZ.1 108 28 (by decide), w274]
            by_cases hc' : j' = i
            · rw [hc', wt_v_sa ε, wt_v_sa δ1]
              exact ⟨rfl, g4'⟩
            · rw [wt_w_sa ε _ (by omega), wt_w_sa δ1 _ hc']
              exact A5 j' (by omega)
          · show wt_gf q10 1 7 = wt_gf w 108 6
            rw [f10.1 1 7 (fun h => h), FZ.1 108 6 (by decide)]; exact A6
          · show wt_ga q10 35 j' = wt_ga s0 35 j'
            rw [wt_w_sa ε _ (by omega)]; exact A8 j' hj'
  · rw [if_neg (by rw [c1]; decide), if_neg (show ¬ (wt_gf y.2 108 4) < (wt_gf y.2 108 2) from fun h => by have := wt_clt h; omega)]
    by_cases hi0 : i = 0
    · rw [if_pos (Int32.le_iff_toInt_le.mpr (by omega)), if_pos (wt_eqI (by omega))]
      unfold wp_md_text_B84
      refine wt_HH_l (wh_fail n (x := (1 : Int32)) (f := 1) (by decide) st') (fun q14 h14 => ?_)
      rw [h14.1]
      refine wt_HH_r (wh_lettersHere n rv) (fun y15 h15 => ?_)
      obtain ⟨u, u2, p1, p2, rv15, e15, f15⟩ := h15
      have eu : u = j := wt_run_u p1 (wt_run_self r)
      rw [eu] at p2 rv15 e15
      have eu2 : u2 = j := by
        have := wt_run_le p2 (by omega)
        have := p2.1
        omega
      rw [eu2] at e15
      have h015 : wt_gf y15.2 108 5 = 0 := (f15.1 108 5 (by (try dsimp only); omega)).trans h0
      have xrt15 : wt_xr T s0 z0 i t.2 y15.2 := wt_xr_fr xr wt_fr.rf f15 (F := fun _ _ => False) (A := fun _ => False) (fun i k h => h.elim) (fun i h => h.elim) (fun i k h => by (try dsimp only at h); omega) (fun i h => h)
      refine wt_HH_r (wr_wordAny n (x4 := wt_gf y15.2 108 28) (β := β) rv15 (x1 := y15.1) (m := 0) (by omega) (by omega) (by omega) xrt15.2.2.2.1 rfl) (fun y16 h16 => ?_)
      rw [h16, if_pos (wt_eqI (a := y15.1) (b := (0 : Int32)) (by omega))]
      have R := WR 1 (1 : Int32) y15.1 y16.1 q14.2 y15.2 K' (by decide) (by omega) (by omega) h14.2.1 rv15 h015 xrt15 (wt_fr.tr W2 h14.2.2 (fun i k h => by (try dsimp only at h); omega) (fun i h => h.elim))
      exact R
    · rw [if_neg (fun h => by have := wt_cle h; omega), if_neg (fun h => by have := wt_ceq h; omega)]
      obtain ⟨A1, A2, A3, A4, A5, A6, A7, A8, A9⟩ := xr2
      refine wt_HH_lt (wt_HH_ofA (wh_close n hn (z := y.2) (m := i) i1 i3 A1 A3 A4 (fun j hj => (A5 j hj).2)) (wh_textEnd n (m := i) h0 i1 i3 A2 A3)) (fun a y' hab => ?_)
      obtain ⟨⟨a1, fa, a34, a36, a36o, a37o, a37⟩, hy⟩ := hab
      obtain ⟨b1, fb, b3, b39, b253, b253o, b255⟩ := hy
      have FA : wt_fr (fun i k => (i = 1 ∧ 2 ≤ k) ∨ (i = 34 ∧ k = 4)) (fun i => i = 3 ∨ i = 35 ∨ i = 36 ∨ i = 37 ∨ i = 38) s0 a.2 := wt_fr.tr (wt_frw A7 (fun i k h => Or.inl h) (fun i h => by (try dsimp only at h); omega)) fa (fun i k h => Or.inr h) (fun i h => by (try dsimp only at h); omega)
      have FB : wt_fr (fun i k => i = 108 ∧ ((3 ≤ k ∧ k < 8) ∨ k = 39)) (fun i => i = 274 ∨ i = 253 ∨ i = 255 + T) z0 y'.2 := wt_fr.tr (wt_frw A9 (fun i k h => by (try dsimp only at h); omega) (fun i h => Or.inl h)) fb (fun i k h => by (try dsimp only at h); omega) (fun i h => by (try dsimp only at h); omega)
      refine ⟨?_, FB.1 108 0 (by decide), ⟨?_, fun t' ht' => ?_⟩, Or.inr ⟨a1, a34, by rw [b1]; exact A2⟩⟩
      · show wt_gf a.2 1 7 = _
        rw [fa.1 1 7 (by decide), b3]; exact A6
      · show wt_gf a.2 34 4 = _
        exact wt_eqI (a34.trans b39.symm)
      · show wu_X1 a.2 y'.2 t'
        by_cases hc' : t' = T
        · rw [hc']
          refine ⟨i, by rw [a36]; exact i1, by rw [b253, a36], by omega, i3, fun j' hj' => ?_, fun l hl => ?_⟩
          · rw [fa.2 35 (by decide), b255 j' hj', fb.1 108 28 (by decide)]
            exact A5 j' hj'
          · rw [a37 l hl]
            unfold wt_nt
            rw [b253, wt_tnN i1]
            refine wt_sum_congr i (fun k' hk' => ?_)
            have A5k := A5 k' hk'
            show wt_nw y.2 _ _ = wt_nw y'.2 _ _
            rw [b255 k' hk', ← A5k.1]
            have gW : (wt_gf y.2 108 28).toInt ≤ 60 := by
              obtain ⟨W, G, ⟨w1, w2, w3⟩, -⟩ := A4
              omega
            have hkk := wt_tnI A5k.2.1
            unfold wt_nw
            rw [fb.2 126 (by (try dsimp only); omega)]
            have e2 : (fun j => (wt_ga y'.2 (193 + Int32.toNatClampNeg (wt_ga q2.2 35 (12 * T + k'))) j).toInt) = (fun j => (wt_ga y.2 (193 + Int32.toNatClampNeg (wt_ga q2.2 35 (12 * T + k'))) j).toInt) := by
              funext j
              rw [fb.2 (193 + Int32.toNatClampNeg (wt_ga q2.2 35 (12 * T + k'))) (by (try dsimp only); omega) j]
            rw [e2]
        · have ht2 : (t' : Int) < (wt_gf z0 108 39).toInt := by omega
          refine wu_X1_eq (tx0.2 t' ht2) rz0 (by omega) ?_ (fun i' hi' => ?_) (fun l hl => ?_) (FB.1 108 28 (by decide)) ?_ (FB.2 (255 + t') (by (try dsimp only); omega)) (fun i' hi' => FB.2 i' (by (try dsimp only); omega))
          · rw [a36o t' hc']; exact A7.2 36 (by decide) t'
          · rw [fa.2 35 (by decide)]; exact A8 _ (by omega)
          · rw [a37o _ (by omega)]; exact A7.2 37 (by decide) _
          · rw [b253o t' hc']; exact A9.2 253 (by decide) t'
end WTQ5
-- 91d.text3.lean.txt
section WTQ6
theorem wt_HH_lt2 {β : Type} {x : Option (Int32 × wt_St)} {y : Option β} {P : Int32 × wt_St → β → Prop} {Q : Nat × Int32 × wt_St → β → Prop} {f g : wt_St → Int32} (h : wt_HH x y P) (k : ∀ a b, P a b → (a.1 = 0 → Q (0, f a.2, a.2) b) ∧ (¬ a.1 = 0 → Q (0, g a.2, a.2) b)) : wt_HH (x.bind fun q5 => if q5.1 = 0 then some ((0 : Nat), f q5.2, q5.2) else some ((0 : Nat), g q5.2, q5.2)) y Q := by
  cases x with
  | none => exact wt_HH_nl
  | some a =>
    intro u v e e'
    have e2 : (if a.1 = 0 then some ((0 : Nat), f a.2, a.2) else some ((0 : Nat), g a.2, a.2)) = some u := e
    have K := k a v (h a v rfl e')
    by_cases ha : a.1 = 0
    · rw [if_pos ha] at e2
      cases e2
      exact K.1 ha
    · rw [if_neg ha] at e2
      cases e2
      exact K.2 ha
set_option maxRecDepth 100000 in
set_option maxHeartbeats 8000000 in
/-- text on both sides: both refuse, or both answer alike, and the texts stand alike -/
theorem wr_text (n : Nat) (hn : 4294967297 < n) {x1 : Int32} {s z : wt_St} (tb : wt_TB s z) (rz : wt_RI z) (to : wt_TO s z) (tx : wu_TX s z) : wt_HH (wp_ap_text n x1 s) (wp_md_text n x1 z) (fun q y => (q.1 = 1 ∧ wt_gf y.2 108 0 = 1 ∧ q.2.2 = s ∧ wt_fr (fun i k => i = 108 ∧ k = 0) (fun _ => False) z y.2) ∨ (q.1 = 0 ∧ wt_gf y.2 108 0 = 0 ∧ q.2.1 = y.1 ∧ wt_gf q.2.2 1 7 = wt_gf y.2 108 3 ∧ wu_TX q.2.2 y.2)) := by
  have k0 : (0 : Int32).toInt = 0 := by decide
  have k1 : (1 : Int32).toInt = 1 := by decide
  have k8 : (8 : Int32).toInt = 8 := by decide
  have k10 : (10 : Int32).toInt = 10 := by decide
  have k200 : (200 : Int32).toInt = 200 := by decide
  have hz : 0 ≤ (wt_gf z 108 1).toInt ∧ (wt_gf z 108 1).toInt ≤ 500 := wt_R_gf rz 0 rfl
  have hz39 : 0 ≤ (wt_gf z 108 39).toInt ∧ (wt_gf z 108 39).toInt ≤ 8 := wt_R_gf rz 7 rfl
  unfold wp_md_text
  obtain ⟨z0, ε0⟩ : ∃ o : wt_St, o = wt_sf z 108 0 (0 : Int32) := ⟨_, rfl⟩
  rw [← ε0]
  have g0 := wt_fr_sf ε0
  have rz0 := wt_RI_fno rz ε0 (Or.inr (by decide))
  have e1 : wt_gf z0 108 1 = wt_gf z 108 1 := g0.1 108 1 (by (try dsimp only); omega)
  have t0 : wt_gf z0 108 0 = 0 := wt_v_sf ε0
  rw [e1]
  refine wt_HH_r (wh_in n) (fun q1 h1 => ?_)
  obtain ⟨h1a, h1b⟩ := h1
  rw [h1a]
  have BAD : wt_HH (wp_ap_text_B27 n x1 (1 : Int32) s) (wp_md_text_B30 n x1 (1 : Int32) z0) (fun q y => (q.1 = 1 ∧ wt_gf y.2 108 0 = 1 ∧ q.2.2 = s ∧ wt_fr (fun i k => i = 108 ∧ k = 0) (fun _ => False) z y.2) ∨ (q.1 = 0 ∧ wt_gf y.2 108 0 = 0 ∧ q.2.1 = y.1 ∧ wt_gf q.2.2 1 7 = wt_gf y.2 108 3 ∧ wu_TX q.2.2 y.2)) := by
    unfold wp_ap_text_B27 wp_md_text_B30
    refine wt_HH_l (wh_refuse1 n) (fun q hq => ?_)
    subst hq
    dsimp only
    rw [if_neg (by decide)]
    refine wt_HH_r (wh_bad1 n t0 (by decide)) (fun y hy => ?_)
    subst hy
    dsimp only
    rw [if_neg (by decide)]
    exact wt_HH_some (Or.inl ⟨rfl, wt_v_sf rfl, rfl, wt_fr.tr g0 (wt_fr_sf rfl) (fun i k h => h) (fun i h => h)⟩)
  have GOOD : 0 ≤ x1.toInt → x1.toInt ≤ (wt_gf z 108 1).toInt → wt_HH (wp_ap_text_B27 n x1 (0 : Int32) s) (wp_md_text_B30 n x1 (0 : Int32) z0) (fun q y => (q.1 = 1 ∧ wt_gf y.2 108 0 = 1 ∧ q.2.2 = s ∧ wt_fr (fun i k => i = 108 ∧ k = 0) (fun _ => False) z y.2) ∨ (q.1 = 0 ∧ wt_gf y.2 108 0 = 0 ∧ q.2.1 = y.1 ∧ wt_gf q.2.2 1 7 = wt_gf y.2 108 3 ∧ wu_TX q.2.2 y.2)) := by
    intro hx0 hx1
    have en := wt_tnI hx0
    unfold wp_ap_text_B27 wp_md_text_B30
    refine wt_HH_l (wh_refuse0 n) (fun q hq => ?_)
    subst hq
    dsimp only
    rw [if_pos rfl]
    refine wt_HH_r (wh_bad0 n t0) (fun y hy => ?_)
    subst hy
    dsimp only
    rw [if_pos rfl]
    refine wt_HH_l (wh_begin n (β := fun j => wt_ga s 2 j) hx0 (by omega) (fun _ _ => rfl)) (fun s6 hs6 => ?_)
    obtain ⟨tv, e17, -, -, fb⟩ := hs6
    refine wt_HH_r ((wh_starts n (β := fun j => wt_ga s 2 j) (z0 := z0) hx0 (by omega) (fun j hj => by rw [g0.2 109 (fun h => h)]; exact (tb.1 j hj).symm)).and (wq_md_starts n hn x1 z0 rz0 hx0 (by omega)).h) (fun z7 hz7 => ?_)
    obtain ⟨⟨j, rj, rv7, h5, h6, h7, g7⟩, -, rz7, -⟩ := hz7
    obtain ⟨z8, ε8⟩ : ∃ o : wt_St, o = wt_sf z7 108 3 (-1 : Int32) := ⟨_, rfl⟩
    rw [← ε8]
    have g8 := wt_fr_sf ε8
    have rz8 := wt_RI_fno rz7 ε8 (Or.inr (by decide))
    have FZ : wt_fr (fun i k => i = 108 ∧ k < 8) (fun _ => False) z z8 := (wt_fr.tr (wt_frw g0 (fun i k h => by (try dsimp only at h); omega) (fun i h => h)) g7 (fun i k h => by (try dsimp only at h); omega) (fun i h => h)).sf ε8 (by first | decide | ((try dsimp only); omega))
    have e34 : wt_gf s6 34 4 = wt_gf s 34 4 := fb.1 34 4 (by decide)
    have e39 : wt_gf z8 108 39 = wt_gf z 108 39 := FZ.1 108 39 (by decide)
    have hb0 : wt_gf z8 108 0 = 0 := by rw [g8.1 108 0 (by decide), g7.1 108 0 (by (try dsimp only); omega)]; exact t0
    have tx8 : wu_TX s6 z8 := wu_TX_fr tx rz fb FZ (by decide) (fun i p q h => h) ⟨by decide, by decide⟩ (fun i _ h => h)
    have to8 : wt_TO s6 z8 := wt_TO_fr to fb FZ ⟨by decide, by decide⟩ (fun i _ _ h => h) ⟨by decide, by decide⟩ (fun i _ h => h)
    have s34 := wt_ceq tx.1
    rw [e34, e39]
    by_cases h8 : (wt_gf z 108 39).toInt = 8
    · rw [if_neg (fun h => by have := wt_clt h; omega), if_pos (wt_eqI (by omega))]
      refine wt_HH_some (Or.inr ⟨rfl, hb0, rfl, ?_, tx8⟩)
      show wt_gf s6 1 7 = wt_gf z8 108 3
      rw [wt_v_sf ε8, e17]
    · rw [if_pos (Int32.lt_iff_toInt_lt.mpr (by omega)), if_neg (fun h => by have := wt_ceq h; omega)]
      have hT := wt_tnI hz39.1
      unfold wp_tx_fill
      have R := wr_textLoop n n n hn (T := Int32.toNatClampNeg (wt_gf z 108 39)) rz8 tx8 tv rj (wt_rv_fr rv7 g8 (fun h => h) (by decide) (by decide)) ((g8.1 108 5 (by decide)).trans h5) ⟨by rw [e34]; omega, by rw [e39]; omega, by omega, to8, fun j hj => absurd hj (by omega), by rw [e17, g8.1 108 6 (by decide), h6], wt_fr.rf, fun _ _ => rfl, wt_fr.rf⟩
      refine wt_HH_lt2 (f := fun σ => (wt_gf σ 1 6) - (10 : Int32)) (g := fun σ => (wt_gf σ 34 4) - (1 : Int32)) R (fun a b hab => ?_)
      obtain ⟨a1, a2, a3, a4⟩ := hab
      refine ⟨fun ha => Or.inr ⟨rfl, a2.trans hb0, ?_, a1, a3⟩, fun ha => Or.inr ⟨rfl, a2.trans hb0, ?_, a1, a3⟩⟩
      · rcases a4 with ⟨-, f, f1, f2, f3, f4⟩ | ⟨c, -⟩
        · have es := wt_subE (x := wt_gf a.2 1 6) (y := (10 : Int32)) (by omega) (by omega)
          exact wt_eqI (by (try dsimp only); omega)
        · exact absurd (ha.symm.trans c) (by decide)
      · rcases a4 with ⟨c, -⟩ | ⟨-, c1, c2⟩
        · exact absurd c ha
        · have es := wt_subE (x := wt_gf a.2 34 4) (y := (1 : Int32)) (by omega) (by omega)
          exact wt_eqI (by (try dsimp only); omega)
  unfold wp_ap_text wp_ap_text_B22 wp_md_text_B25
  have ts := wt_ceq tb.2
  rcases h1b with ⟨c1, c2⟩ | ⟨c1, c2, c3⟩
  · rw [if_pos c1]
    refine wt_HH_il (fun d => BAD) (fun d => ?_)
    have d' := wt_ncl d
    refine wt_HH_il (fun f => BAD) (fun f => ?_)
    have f' := wt_ncl f
    omega
  · rw [if_neg (show ¬ x1 < 0 from fun d => by have := wt_clt d; omega), if_neg (show ¬ wt_gf s 1 2 < x1 from fun d => by have := wt_clt d; omega), if_neg (show ¬ q1.1 = 0 from by rw [c1]; decide)]
    by_cases h200 : x1 ≤ (200 : Int32)
    · rw [if_pos h200, if_pos h200]
      exact GOOD (by omega) c3
    · rw [if_neg h200, if_neg h200]
      exact BAD
end WTQ6
-- 92a.q1.lean.txt
section WTQ7
/-! words, texts, the place of the fault, how many images: alike on both sides between the calls -/
def wu_Q1 (σ : wt_St) : Prop := wt_TO σ σ ∧ wu_TX σ σ ∧ wt_gf σ 1 7 = wt_gf σ 108 3 ∧ wt_gf σ 0 14 = wt_gf σ 108 41
def wu_qF (i k : Nat) : Prop := (i = 20 ∧ (k = 6 ∨ k = 7)) ∨ (i = 34 ∧ k = 4) ∨ (i = 1 ∧ k = 7) ∨ (i = 0 ∧ k = 14)
def wu_qA (i : Nat) : Prop := (20 < i ∧ i < 27) ∨ (34 < i ∧ i < 38)
def wu_qG (k : Nat) : Prop := k = 28 ∨ k = 30 ∨ k = 39 ∨ k = 3 ∨ k = 41
def wu_qB (i : Nat) : Prop := i = 126 ∨ i = 128 ∨ i = 130 ∨ (193 ≤ i ∧ i < 254) ∨ (255 ≤ i ∧ i < 263)
theorem wu_TT_fr {σ σ1 σ2 : wt_St} {F F' : Nat → Nat → Prop} {A A' : Nat → Prop} (r0 : wt_RI σ) (r : wt_RI σ1) (a : wt_TO σ σ) (b : wu_TX σ σ) (f : wt_fr F A σ σ1) (g : wt_fr F' A' σ1 σ2) (h1 : ∀ i k, (i = 20 ∧ (k = 6 ∨ k = 7)) ∨ (i = 34 ∧ k = 4) → ¬ F i k) (h2 : ∀ i, wu_qA i → ¬ A i) (h3 : ∀ k, ¬ F 108 k) (h4 : ∀ i, 108 ≤ i → ¬ A i) (h5 : ∀ i k, i < 108 → ¬ F' i k) (h6 : ∀ i, i < 108 → ¬ A' i) (h7 : ∀ k, k = 28 ∨ k = 30 ∨ k = 39 → ¬ F' 108 k) (h8 : ∀ i, wu_qB i → ¬ A' i) : wt_TO σ2 σ2 ∧ wu_TX σ2 σ2 := by
  have a1 : wt_TO σ1 σ1 := wt_TO_fr a f f ⟨h1 _ _ (by omega), h1 _ _ (by omega)⟩ (fun i p q => h2 _ (by unfold wu_qA; omega)) ⟨h3 _, h3 _⟩ (fun i hi => h4 _ (by omega))
  have b1 : wu_TX σ1 σ1 := wu_TX_fr b r0 f f (h1 _ _ (by omega)) (fun i p q => h2 _ (by unfold wu_qA; omega)) ⟨h3 _, h3 _⟩ (fun i hi => h4 _ (by omega))
  exact ⟨wt_TO_fr a1 g g ⟨h5 _ _ (by omega), h5 _ _ (by omega)⟩ (fun i p q => h6 _ (by omega)) ⟨h7 _ (by omega), h7 _ (by omega)⟩ (fun i hi => h8 _ (by unfold wu_qB; omega)), wu_TX_fr b1 r g g (h5 _ _ (by omega)) (fun i p q => h6 _ (by omega)) ⟨h7 _ (by omega), h7 _ (by omega)⟩ (fun i hi => h8 _ (by unfold wu_qB; omega))⟩
theorem wu_Q1_fr {σ σ1 σ2 : wt_St} {F F' : Nat → Nat → Prop} {A A' : Nat → Prop} (r0 : wt_RI σ) (r : wt_RI σ1) (j : wu_Q1 σ) (f : wt_fr F A σ σ1) (g : wt_fr F' A' σ1 σ2) (h1 : ∀ i k, wu_qF i k → ¬ F i k) (h2 : ∀ i, wu_qA i → ¬ A i) (h3 : ∀ k, ¬ F 108 k) (h4 : ∀ i, 108 ≤ i → ¬ A i) (h5 : ∀ i k, i < 108 → ¬ F' i k) (h6 : ∀ i, i < 108 → ¬ A' i) (h7 : ∀ k, wu_qG k → ¬ F' 108 k) (h8 : ∀ i, wu_qB i → ¬ A' i) : wu_Q1 σ2 := by
  obtain ⟨a, b, c, d⟩ := j
  obtain ⟨a2, b2⟩ := wu_TT_fr r0 r a b f g (fun i k h => h1 i k (by unfold wu_qF; omega)) h2 h3 h4 h5 h6 (fun k h => h7 k (by unfold wu_qG; omega)) h8
  refine ⟨a2, b2, ?_, ?_⟩
  · rw [g.1 1 7 (h5 _ _ (by omega)), f.1 1 7 (h1 _ _ (by unfold wu_qF; omega)), g.1 108 3 (h7 _ (by unfold wu_qG; omega)), f.1 108 3 (h3 _)]; exact c
  · rw [g.1 0 14 (h5 _ _ (by omega)), f.1 0 14 (h1 _ _ (by unfold wu_qF; omega)), g.1 108 41 (h7 _ (by unfold wu_qG; omega)), f.1 108 41 (h3 _)]; exact d
/-- the class has run: its cells are new, the reference's old -/
theorem wu_mid {σ σ1 : wt_St} {F : Nat → Nat → Prop} {A : Nat → Prop} (to : wt_TO σ σ) (tx : wu_TX σ σ) (r0 : wt_RI σ) (f : wt_fr F A σ σ1) (h3 : ∀ k, ¬ F 108 k) (h4 : ∀ i, 108 ≤ i → ¬ A i) : wt_TO σ σ1 ∧ wu_TX σ σ1 := ⟨wt_TO_fr to (wt_fr.rf (F := fun _ _ => False) (A := fun _ => False)) f ⟨fun h => h, fun h => h⟩ (fun _ _ _ h => h) ⟨h3 _, h3 _⟩ (fun i hi => h4 _ (by omega)), wu_TX_fr tx r0 (wt_fr.rf (F := fun _ _ => False) (A := fun _ => False)) f (fun h => h) (fun _ _ _ h => h) ⟨h3 _, h3 _⟩ (fun i hi => h4 _ (by omega))⟩
theorem wu_endTO {q r : wt_St} {F : Nat → Nat → Prop} {A : Nat → Prop} (to : wt_TO q r) (g : wt_fr F A q r) (h5 : ∀ i k, i < 108 → ¬ F i k) (h6 : ∀ i, i < 108 → ¬ A i) : wt_TO r r := wt_TO_fr to g (wt_fr.rf (F := fun _ _ => False) (A := fun _ => False)) ⟨h5 _ _ (by omega), h5 _ _ (by omega)⟩ (fun i p q => h6 _ (by omega)) ⟨fun h => h, fun h => h⟩ (fun _ _ h => h)
theorem wu_endTX {q r : wt_St} {F : Nat → Nat → Prop} {A : Nat → Prop} (rr : wt_RI r) (tx : wu_TX q r) (g : wt_fr F A q r) (h5 : ∀ i k, i < 108 → ¬ F i k) (h6 : ∀ i, i < 108 → ¬ A i) : wu_TX r r := wu_TX_fr tx rr g (wt_fr.rf (F := fun _ _ => False) (A := fun _ => False)) (h5 _ _ (by omega)) (fun i p q => h6 _ (by omega)) ⟨fun h => h, fun h => h⟩ (fun _ _ h => h)
end WTQ7
-- 92b.q1ops.lean.txt
section WTQ8
set_option maxHeartbeats 4000000 in
theorem wk1_feed (n : Nat) (hn : 4294967297 < n) {σ : wt_St} (x1 x2 x3 x4 x5 : Int32) (v : wt_IV σ) (j : wu_Q1 σ) : wt_H (wp_ap_feed n x1 x2 x3 x4 x5 σ) (fun q => wt_H (wp_md_feed n x1 x2 x3 x4 x5 q.2) (fun r => wu_Q1 r.2)) := by
  refine (wq_ap_feed n hn x1 x2 x3 x4 x5 σ).h.imp (fun q hq => ?_)
  have fq := hq.1
  have v2 : wt_IV q.2 := wt_IV_cls v fq (fun k => (by (try dsimp only); first | omega | exact fun h => h | (intros; omega) | decide)) (fun i hi => (by (try dsimp only); first | omega | exact fun h => h | (intros; omega) | decide))
  refine (wq_md_feed n hn x1 x2 x3 x4 x5 q.2 v2.1).h.imp (fun r hr => ?_)
  have fr := hr.1
  exact wu_Q1_fr v.1 v2.1 j fq fr (fun i k h => by unfold wu_qF at h; (try dsimp only); first | omega | exact fun h => h) (fun i h => by unfold wu_qA at h; (try dsimp only); first | omega | exact fun h => h) (fun k => by (try dsimp only); first | omega | exact fun h => h) (fun i h => by (try dsimp only); first | omega | exact fun h => h) (fun i k h => by (try dsimp only); first | omega | exact fun h => h) (fun i h => by (try dsimp only); first | omega | exact fun h => h) (fun k h => by unfold wu_qG at h; (try dsimp only); first | omega | exact fun h => h) (fun i h => by unfold wu_qB at h; (try dsimp only); first | omega | exact fun h => h)
set_option maxHeartbeats 4000000 in
theorem wk1_fault (n : Nat) (hn : 4294967297 < n) {σ : wt_St} (v : wt_IV σ) (j : wu_Q1 σ) : wt_H (wp_ap_fault n σ) (fun q => wt_H (wp_md_fault n q.2) (fun r => wu_Q1 r.2)) := by
  refine (wq_ap_fault n hn σ).h.imp (fun q hq => ?_)
  have fq := (by rw [hq]; exact wt_fr.rf : wt_fr (fun _ _ => False) (fun _ => False) σ q.2)
  have v2 : wt_IV q.2 := wt_IV_cls v fq (fun k => (by (try dsimp only); first | omega | exact fun h => h | (intros; omega) | decide)) (fun i hi => (by (try dsimp only); first | omega | exact fun h => h | (intros; omega) | decide))
  refine (wq_md_fault n hn q.2 v2.1).h.imp (fun r hr => ?_)
  have fr := hr.1
  exact wu_Q1_fr v.1 v2.1 j fq fr (fun i k h => by unfold wu_qF at h; (try dsimp only); first | omega | exact fun h => h) (fun i h => by unfold wu_qA at h; (try dsimp only); first | omega | exact fun h => h) (fun k => by (try dsimp only); first | omega | exact fun h => h) (fun i h => by (try dsimp only); first | omega | exact fun h => h) (fun i k h => by (try dsimp only); first | omega | exact fun h => h) (fun i h => by (try dsimp only); first | omega | exact fun h => h) (fun k h => by unfold wu_qG at h; (try dsimp only); first | omega | exact fun h => h) (fun i h => by unfold wu_qB at h; (try dsimp only); first | omega | exact fun h => h)
set_option maxHeartbeats 4000000 in
theorem wk1_told (n : Nat) (hn : 4294967297 < n) {σ : wt_St} (x1 : Int32) (v : wt_IV σ) (j : wu_Q1 σ) : wt_H (wp_ap_told n x1 σ) (fun q => wt_H (wp_md_told n x1 q.2.2) (fun r => wu_Q1 r.2)) := by
  refine (wq_ap_told n hn x1 σ).h.imp (fun q hq => ?_)
  have fq := (by rw [hq.1]; exact wt_fr.rf : wt_fr (fun _ _ => False) (fun _ => False) σ q.2.2)
  have v2 : wt_IV q.2.2 := wt_IV_cls v fq (fun k => (by (try dsimp only); first | omega | exact fun h => h | (intros; omega) | decide)) (fun i hi => (by (try dsimp only); first | omega | exact fun h => h | (intros; omega) | decide))
  refine (wq_md_told n hn x1 q.2.2 v2.1).h.imp (fun r hr => ?_)
  have fr := hr.1
  exact wu_Q1_fr v.1 v2.1 j fq fr (fun i k h => by unfold wu_qF at h; (try dsimp only); first | omega | exact fun h => h) (fun i h => by unfold wu_qA at h; (try dsimp only); first | omega | exact fun h => h) (fun k => by (try dsimp only); first | omega | exact fun h => h) (fun i h => by (try dsimp only); first | omega | exact fun h => h) (fun i k h => by (try dsimp only); first | omega | exact fun h => h) (fun i h => by (try dsimp only); first | omega | exact fun h => h) (fun k h => by unfold wu_qG at h; (try dsimp only); first | omega | exact fun h => h) (fun i h => by unfold wu_qB at h; (try dsimp only); first | omega | exact fun h => h)
set_option maxHeartbeats 4000000 in
theorem wk1_letter (n : Nat) (hn : 4294967297 < n) {σ : wt_St} (x1 x2 : Int32) (v : wt_IV σ) (j : wu_Q1 σ) : wt_H (wp_ap_letter n x1 x2 σ) (fun q => wt_H (wp_md_letter n x1 x2 q.2.2) (fun r => wu_Q1 r.2)) := by
  refine (wq_ap_letter n hn x1 x2 σ).h.imp (fun q hq => ?_)
  have fq := (by rw [hq.1]; exact wt_fr.rf : wt_fr (fun _ _ => False) (fun _ => False) σ q.2.2)
  have v2 : wt_IV q.2.2 := wt_IV_cls v fq (fun k => (by (try dsimp only); first | omega | exact fun h => h | (intros; omega) | decide)) (fun i hi => (by (try dsimp only); first | omega | exact fun h => h | (intros; omega) | decide))
  refine (wq_md_letter n hn x1 x2 q.2.2 v2.1).h.imp (fun r hr => ?_)
  have fr := hr.1
  exact wu_Q1_fr v.1 v2.1 j fq fr (fun i k h => by unfold wu_qF at h; (try dsimp only); first | omega | exact fun h => h) (fun i h => by unfold wu_qA at h; (try dsimp only); first | omega | exact fun h => h) (fun k => by (try dsimp only); first | omega | exact fun h => h) (fun i h => by (try dsimp only); first | omega | exact fun h => h) (fun i k h => by (try dsimp only); first | omega | exact fun h => h) (fun i h => by (try dsimp only); first | omega | exact fun h => h) (fun k h => by unfold wu_qG at h; (try dsimp only); first | omega | exact fun h => h) (fun i h => by unfold wu_qB at h; (try dsimp only); first | omega | exact fun h => h)
set_option maxHeartbeats 4000000 in
theorem wk1_piece (n : Nat) (hn : 4294967297 < n) {σ : wt_St} (x1 x2 x3 : Int32) (v : wt_IV σ) (j : wu_Q1 σ) : wt_H (wp_ap_piece n x1 x2 x3 σ) (fun q => wt_H (wp_md_piece n x1 x2 x3 q.2.2) (fun r => wu_Q1 r.2)) := by
  refine (wq_ap_piece n hn x1 x2 x3 σ).h.imp (fun q hq => ?_)
  have fq := (by rw [hq.1]; exact wt_fr.rf : wt_fr (fun _ _ => False) (fun _ => False) σ q.2.2)
  have v2 : wt_IV q.2.2 := wt_IV_cls v fq (fun k => (by (try dsimp only); first | omega | exact fun h => h | (intros; omega) | decide)) (fun i hi => (by (try dsimp only); first | omega | exact fun h => h | (intros; omega) | decide))
  refine (wq_md_piece n hn x1 x2 x3 q.2.2 v2.1).h.imp (fun r hr => ?_)
  have fr := hr.1
  exact wu_Q1_fr v.1 v2.1 j fq fr (fun i k h => by unfold wu_qF at h; (try dsimp only); first | omega | exact fun h => h) (fun i h => by unfold wu_qA at h; (try dsimp only); first | omega | exact fun h => h) (fun k => by (try dsimp only); first | omega | exact fun h => h) (fun i h => by (try dsimp only); first | omega | exact fun h => h) (fun i k h => by (try dsimp only); first | omega | exact fun h => h) (fun i h => by (try dsimp only); first | omega | exact fun h => h) (fun k h => by unfold wu_qG at h; (try dsimp only); first | omega | exact fun h => h) (fun i h => by unfold wu_qB at h; (try dsimp only); first | omega | exact fun h => h)
set_option maxHeartbeats 4000000 in
theorem wk1_word (n : Nat) (hn : 4294967297 < n) {σ : wt_St} (x1 x2 : Int32) (v : wt_IV σ) (j : wu_Q1 σ) : wt_H (wp_ap_word n x1 x2 σ) (fun q => wt_H (wp_md_word n x1 x2 q.2.2) (fun r => wu_Q1 r.2)) := by
  refine (wq_ap_word n hn x1 x2 σ).h.imp (fun q hq => ?_)
  have fq := hq.1
  have v2 : wt_IV q.2.2 := wt_IV_cls v fq (fun k => (by (try dsimp only); first | omega | exact fun h => h | (intros; omega) | decide)) (fun i hi => (by (try dsimp only); first | omega | exact fun h => h | (intros; omega) | decide))
  refine (wq_md_word n hn x1 x2 q.2.2 v2.1).h.imp (fun r hr => ?_)
  have fr := hr.1
  exact wu_Q1_fr v.1 v2.1 j fq fr (fun i k h => by unfold wu_qF at h; (try dsimp only); first | omega | exact fun h => h) (fun i h => by unfold wu_qA at h; (try dsimp only); first | omega | exact fun h => h) (fun k => by (try dsimp only); first | omega | exact fun h => h) (fun i h => by (try dsimp only); first | omega | exact fun h => h) (fun i k h => by (try dsimp only); first | omega | exact fun h => h) (fun i h => by (try dsimp only); first | omega | exact fun h => h) (fun k h => by unfold wu_qG at h; (try dsimp only); first | omega | exact fun h => h) (fun i h => by unfold wu_qB at h; (try dsimp only); first | omega | exact fun h => h)
set_option maxHeartbeats 4000000 in
theorem wk1_at (n : Nat) (hn : 4294967297 < n) {σ : wt_St} (x1 x2 : Int32) (v : wt_IV σ) (j : wu_Q1 σ) : wt_H (wp_ap_at n x1 x2 σ) (fun q => wt_H (wp_md_at n x1 x2 q.2.2) (fun r => wu_Q1 r.2)) := by
  refine (wq_ap_at n hn x1 x2 σ).h.imp (fun q hq => ?_)
  have fq := (by rw [hq.1]; exact wt_fr.rf : wt_fr (fun _ _ => False) (fun _ => False) σ q.2.2)
  have v2 : wt_IV q.2.2 := wt_IV_cls v fq (fun k => (by (try dsimp only); first | omega | exact fun h => h | (intros; omega) | decide)) (fun i hi => (by (try dsimp only); first | omega | exact fun h => h | (intros; omega) | decide))
  refine (wq_md_at n hn x1 x2 q.2.2 v2.1).h.imp (fun r hr => ?_)
  have fr := hr.1
  exact wu_Q1_fr v.1 v2.1 j fq fr (fun i k h => by unfold wu_qF at h; (try dsimp only); first | omega | exact fun h => h) (fun i h => by unfold wu_qA at h; (try dsimp only); first | omega | exact fun h => h) (fun k => by (try dsimp only); first | omega | exact fun h => h) (fun i h => by (try dsimp only); first | omega | exact fun h => h) (fun i k h => by (try dsimp only); first | omega | exact fun h => h) (fun i h => by (try dsimp only); first | omega | exact fun h => h) (fun k h => by unfold wu_qG at h; (try dsimp only); first | omega | exact fun h => h) (fun i h => by unfold wu_qB at h; (try dsimp only); first | omega | exact fun h => h)
set_option maxHeartbeats 4000000 in
theorem wk1_needs (n : Nat) (hn : 4294967297 < n) {σ : wt_St} (x1 x2 : Int32) (v : wt_IV σ) (j : wu_Q1 σ) : wt_H (wp_ap_needs n x1 x2 σ) (fun q => wt_H (wp_md_needs n x1 x2 q.2.2) (fun r => wu_Q1 r.2)) := by
  refine (wq_ap_needs n hn x1 x2 σ).h.imp (fun q hq => ?_)
  have fq := (by rw [hq.1]; exact wt_fr.rf : wt_fr (fun _ _ => False) (fun _ => False) σ q.2.2)
  have v2 : wt_IV q.2.2 := wt_IV_cls v fq (fun k => (by (try dsimp only); first | omega | exact fun h => h | (intros; omega) | decide)) (fun i hi => (by (try dsimp only); first | omega | exact fun h => h | (intros; omega) | decide))
  refine (wq_md_needs n hn x1 x2 q.2.2 v2.1).h.imp (fun r hr => ?_)
  have fr := hr.1
  exact wu_Q1_fr v.1 v2.1 j fq fr (fun i k h => by unfold wu_qF at h; (try dsimp only); first | omega | exact fun h => h) (fun i h => by unfold wu_qA at h; (try dsimp only); first | omega | exact fun h => h) (fun k => by (try dsimp only); first | omega | exact fun h => h) (fun i h => by (try dsimp only); first | omega | exact fun h => h) (fun i k h => by (try dsimp only); first | omega | exact fun h => h) (fun i h => by (try dsimp only); first | omega | exact fun h => h) (fun k h => by unfold wu_qG at h; (try dsimp only); first | omega | exact fun h => h) (fun i h => by unfold wu_qB at h; (try dsimp only); first | omega | exact fun h => h)
set_option maxHeartbeats 4000000 in
theorem wk1_habit (n : Nat) (hn : 4294967297 < n) {σ : wt_St} (x1 : Int32) (v : wt_IV σ) (j : wu_Q1 σ) : wt_H (wp_ap_habit n x1 σ) (fun q => wt_H (wp_md_habit n x1 q.2.2) (fun r => wu_Q1 r.2)) := by
  refine (wq_ap_habit n hn x1 σ).h.imp (fun q hq => ?_)
  have fq := hq.1
  have v2 : wt_IV q.2.2 := wt_IV_cls v fq (fun k => (by (try dsimp only); first | omega | exact fun h => h | (intros; omega) | decide)) (fun i hi => (by (try dsimp only); first | omega | exact fun h => h | (intros; omega) | decide))
  refine (wq_md_habit n hn x1 q.2.2 v2.1).h.imp (fun r hr => ?_)
  have fr := hr.1
  exact wu_Q1_fr v.1 v2.1 j fq fr (fun i k h => by unfold wu_qF at h; (try dsimp only); first | omega | exact fun h => h) (fun i h => by unfold wu_qA at h; (try dsimp only); first | omega | exact fun h => h) (fun k => by (try dsimp only); first | omega | exact fun h => h) (fun i h => by (try dsimp only); first | omega | exact fun h => h) (fun i k h => by (try dsimp only); first | omega | exact fun h => h) (fun i h => by (try dsimp only); first | omega | exact fun h => h) (fun k h => by unfold wu_qG at h; (try dsimp only); first | omega | exact fun h => h) (fun i h => by unfold wu_qB at h; (try dsimp only); first | omega | exact fun h => h)
set_option maxHeartbeats 4000000 in
theorem wk1_can (n : Nat) (hn : 4294967297 < n) {σ : wt_St} (x1 : Int32) (v : wt_IV σ) (j : wu_Q1 σ) : wt_H (wp_ap_can n x1 σ) (fun q => wt_H (wp_md_can n x1 q.2.2) (fun r => wu_Q1 r.2)) := by
  refine (wq_ap_can n hn x1 σ).h.imp (fun q hq => ?_)
  have fq := hq.1
  have v2 : wt_IV q.2.2 := wt_IV_cls v fq (fun k => (by (try dsimp only); first | omega | exact fun h => h | (intros; omega) | decide)) (fun i hi => (by (try dsimp only); first | omega | exact fun h => h | (intros; omega) | decide))
  refine (wq_md_can n hn x1 q.2.2 v2.1).h.imp (fun r hr => ?_)
  have fr := hr.1
  exact wu_Q1_fr v.1 v2.1 j fq fr (fun i k h => by unfold wu_qF at h; (try dsimp only); first | omega | exact fun h => h) (fun i h => by unfold wu_qA at h; (try dsimp only); first | omega | exact fun h => h) (fun k => by (try dsimp only); first | omega | exact fun h => h) (fun i h => by (try dsimp only); first | omega | exact fun h => h) (fun i k h => by (try dsimp only); first | omega | exact fun h => h) (fun i h => by (try dsimp only); first | omega | exact fun h => h) (fun k h => by unfold wu_qG at h; (try dsimp only); first | omega | exact fun h => h) (fun i h => by unfold wu_qB at h; (try dsimp only); first | omega | exact fun h => h)
set_option maxHeartbeats 4000000 in
theorem wk1_lacks (n : Nat) (hn : 4294967297 < n) {σ : wt_St} (x1 x2 : Int32) (v : wt_IV σ) (j : wu_Q1 σ) : wt_H (wp_ap_lacks n x1 x2 σ) (fun q => wt_H (wp_md_lacks n x1 x2 q.2.2) (fun r => wu_Q1 r.2)) := by
  refine (wq_ap_lacks n hn x1 x2 σ).h.imp (fun q hq => ?_)
  have fq := hq.1
  have v2 : wt_IV q.2.2 := wt_IV_cls v fq (fun k => (by (try dsimp only); first | omega | exact fun h => h | (intros; omega) | decide)) (fun i hi => (by (try dsimp only); first | omega | exact fun h => h | (intros; omega) | decide))
  refine (wq_md_lacks n hn x1 x2 q.2.2 v2.1).h.imp (fun r hr => ?_)
  have fr := hr.1
  exact wu_Q1_fr v.1 v2.1 j fq fr (fun i k h => by unfold wu_qF at h; (try dsimp only); first | omega | exact fun h => h) (fun i h => by unfold wu_qA at h; (try dsimp only); first | omega | exact fun h => h) (fun k => by (try dsimp only); first | omega | exact fun h => h) (fun i h => by (try dsimp only); first | omega | exact fun h => h) (fun i k h => by (try dsimp only); first | omega | exact fun h => h) (fun i h => by (try dsimp only); first | omega | exact fun h => h) (fun k h => by unfold wu_qG at h; (try dsimp only); first | omega | exact fun h => h) (fun i h => by unfold wu_qB at h; (try dsimp only); first | omega | exact fun h => h)
set_option maxHeartbeats 4000000 in
theorem wk1_set (n : Nat) (hn : 4294967297 < n) {σ : wt_St} (x1 x2 : Int32) (v : wt_IV σ) (j : wu_Q1 σ) : wt_H (wp_ap_set n x1 x2 σ) (fun q => wt_H (wp_md_set n x1 x2 q.2.2) (fun r => wu_Q1 r.2)) := by
  refine (wq_ap_set n hn x1 x2 σ).h.imp (fun q hq => ?_)
  have fq := hq.1
  have v2 : wt_IV q.2.2 := wt_IV_cls v fq (fun k => (by (try dsimp only); first | omega | exact fun h => h | (intros; omega) | decide)) (fun i hi => (by (try dsimp only); first | omega | exact fun h => h | (intros; omega) | decide))
  refine (wq_md_set n hn x1 x2 q.2.2 v2.1).h.imp (fun r hr => ?_)
  have fr := hr.1
  exact wu_Q1_fr v.1 v2.1 j fq fr (fun i k h => by unfold wu_qF at h; (try dsimp only); first | omega | exact fun h => h) (fun i h => by unfold wu_qA at h; (try dsimp only); first | omega | exact fun h => h) (fun k => by (try dsimp only); first | omega | exact fun h => h) (fun i h => by (try dsimp only); first | omega | exact fun h => h) (fun i k h => by (try dsimp only); first | omega | exact fun h => h) (fun i h => by (try dsimp only); first | omega | exact fun h => h) (fun k h => by unfold wu_qG at h; (try dsimp only); first | omega | exact fun h => h) (fun i h => by unfold wu_qB at h; (try dsimp only); first | omega | exact fun h => h)
set_option maxHeartbeats 4000000 in
theorem wk1_print (n : Nat) (hn : 4294967297 < n) {σ : wt_St} (x1 x2 : Int32) (v : wt_IV σ) (j : wu_Q1 σ) : wt_H (wp_ap_print n x1 x2 σ) (fun q => wt_H (wp_md_print n x1 x2 q.2.2) (fun r => wu_Q1 r.2)) := by
  refine (wq_ap_print n hn x1 x2 σ).h.imp (fun q hq => ?_)
  have fq := hq.1
  have v2 : wt_IV q.2.2 := wt_IV_cls v fq (fun k => (by (try dsimp only); first | omega | exact fun h => h | (intros; omega) | decide)) (fun i hi => (by (try dsimp only); first | omega | exact fun h => h | (intros; omega) | decide))
  refine (wq_md_print n hn x1 x2 q.2.2 v2.1 v2.2.2.2.1).h.imp (fun r hr => ?_)
  have fr := hr.1
  exact wu_Q1_fr v.1 v2.1 j fq fr (fun i k h => by unfold wu_qF at h; (try dsimp only); first | omega | exact fun h => h) (fun i h => by unfold wu_qA at h; (try dsimp only); first | omega | exact fun h => h) (fun k => by (try dsimp only); first | omega | exact fun h => h) (fun i h => by (try dsimp only); first | omega | exact fun h => h) (fun i k h => by (try dsimp only); first | omega | exact fun h => h) (fun i h => by (try dsimp only); first | omega | exact fun h => h) (fun k h => by unfold wu_qG at h; (try dsimp only); first | omega | exact fun h => h) (fun i h => by unfold wu_qB at h; (try dsimp only); first | omega | exact fun h => h)
set_option maxHeartbeats 4000000 in
theorem wk1_apart (n : Nat) (hn : 4294967297 < n) {σ : wt_St} (x1 : Int32) (v : wt_IV σ) (j : wu_Q1 σ) : wt_H (wp_ap_apart n x1 σ) (fun q => wt_H (wp_md_apart n x1 q.2.2) (fun r => wu_Q1 r.2)) := by
  refine (wq_ap_apart n hn x1 σ).h.imp (fun q hq => ?_)
  have fq := hq.1
  have v2 : wt_IV q.2.2 := wt_IV_cls v fq (fun k => (by (try dsimp only); first | omega | exact fun h => h | (intros; omega) | decide)) (fun i hi => (by (try dsimp only); first | omega | exact fun h => h | (intros; omega) | decide))
  refine (wq_md_apart n hn x1 q.2.2 v2.1).h.imp (fun r hr => ?_)
  have fr := hr.1
  exact wu_Q1_fr v.1 v2.1 j fq fr (fun i k h => by unfold wu_qF at h; (try dsimp only); first | omega | exact fun h => h) (fun i h => by unfold wu_qA at h; (try dsimp only); first | omega | exact fun h => h) (fun k => by (try dsimp only); first | omega | exact fun h => h) (fun i h => by (try dsimp only); first | omega | exact fun h => h) (fun i k h => by (try dsimp only); first | omega | exact fun h => h) (fun i h => by (try dsimp only); first | omega | exact fun h => h) (fun k h => by unfold wu_qG at h; (try dsimp only); first | omega | exact fun h => h) (fun i h => by unfold wu_qB at h; (try dsimp only); first | omega | exact fun h => h)
set_option maxHeartbeats 4000000 in
theorem wk1_page (n : Nat) (hn : 4294967297 < n) {σ : wt_St} (x1 x2 : Int32) (v : wt_IV σ) (j : wu_Q1 σ) : wt_H (wp_ap_page n x1 x2 σ) (fun q => wt_H (wp_md_page n x1 x2 q.2.2) (fun r => wu_Q1 r.2)) := by
  refine (wq_ap_page n hn x1 x2 σ).h.imp (fun q hq => ?_)
  have fq := hq.1
  have v2 : wt_IV q.2.2 := wt_IV_cls v fq (fun k => (by (try dsimp only); first | omega | exact fun h => h | (intros; omega) | decide)) (fun i hi => (by (try dsimp only); first | omega | exact fun h => h | (intros; omega) | decide))
  refine (wq_md_page n hn x1 x2 q.2.2 v2.1 v2.2.2.1).h.imp (fun r hr => ?_)
  have fr := hr.1
  exact wu_Q1_fr v.1 v2.1 j fq fr (fun i k h => by unfold wu_qF at h; (try dsimp only); first | omega | exact fun h => h) (fun i h => by unfold wu_qA at h; (try dsimp only); first | omega | exact fun h => h) (fun k => by (try dsimp only); first | omega | exact fun h => h) (fun i h => by (try dsimp only); first | omega | exact fun h => h) (fun i k h => by (try dsimp only); first | omega | exact fun h => h) (fun i h => by (try dsimp only); first | omega | exact fun h => h) (fun k h => by unfold wu_qG at h; (try dsimp only); first | omega | exact fun h => h) (fun i h => by unfold wu_qB at h; (try dsimp only); first | omega | exact fun h => h)
set_option maxHeartbeats 4000000 in
theorem wk1_read (n : Nat) (hn : 4294967297 < n) {σ : wt_St} (x1 x2 : Int32) (v : wt_IV σ) (j : wu_Q1 σ) : wt_H (wp_ap_read n x1 x2 σ) (fun q => wt_H (wp_md_read n x1 x2 q.2.2) (fun r => wu_Q1 r.2)) := by
  refine (wq_ap_read n hn x1 x2 σ).h.imp (fun q hq => ?_)
  have fq := hq.1
  have v2 : wt_IV q.2.2 := wt_IV_cls v fq (fun k => (by (try dsimp only); first | omega | exact fun h => h | (intros; omega) | decide)) (fun i hi => (by (try dsimp only); first | omega | exact fun h => h | (intros; omega) | decide))
  refine (wq_md_read n hn x1 x2 q.2.2 v2.1 v2.2.2.1).h.imp (fun r hr => ?_)
  have fr := hr.1
  exact wu_Q1_fr v.1 v2.1 j fq fr (fun i k h => by unfold wu_qF at h; (try dsimp only); first | omega | exact fun h => h) (fun i h => by unfold wu_qA at h; (try dsimp only); first | omega | exact fun h => h) (fun k => by (try dsimp only); first | omega | exact fun h => h) (fun i h => by (try dsimp only); first | omega | exact fun h => h) (fun i k h => by (try dsimp only); first | omega | exact fun h => h) (fun i h => by (try dsimp only); first | omega | exact fun h => h) (fun k h => by unfold wu_qG at h; (try dsimp only); first | omega | exact fun h => h) (fun i h => by unfold wu_qB at h; (try dsimp only); first | omega | exact fun h => h)
set_option maxHeartbeats 4000000 in
theorem wk1_least (n : Nat) (hn : 4294967297 < n) {σ : wt_St} (x1 x2 x3 : Int32) (v : wt_IV σ) (j : wu_Q1 σ) : wt_H (wp_ap_least n x1 x2 x3 σ) (fun q => wt_H (wp_md_least n x1 x2 x3 q.2.2) (fun r => wu_Q1 r.2)) := by
  refine (wq_ap_least n hn x1 x2 x3 σ).h.imp (fun q hq => ?_)
  have fq := hq.1
  have v2 : wt_IV q.2.2 := wt_IV_cls v fq (fun k => (by (try dsimp only); first | omega | exact fun h => h | (intros; omega) | decide)) (fun i hi => (by (try dsimp only); first | omega | exact fun h => h | (intros; omega) | decide))
  refine (wq_md_least n hn x1 x2 x3 q.2.2 v2.1).h.imp (fun r hr => ?_)
  have fr := hr.1
  exact wu_Q1_fr v.1 v2.1 j fq fr (fun i k h => by unfold wu_qF at h; (try dsimp only); first | omega | exact fun h => h) (fun i h => by unfold wu_qA at h; (try dsimp only); first | omega | exact fun h => h) (fun k => by (try dsimp only); first | omega | exact fun h => h) (fun i h => by (try dsimp only); first | omega | exact fun h => h) (fun i k h => by (try dsimp only); first | omega | exact fun h => h) (fun i h => by (try dsimp only); first | omega | exact fun h => h) (fun k h => by unfold wu_qG at h; (try dsimp only); first | omega | exact fun h => h) (fun i h => by unfold wu_qB at h; (try dsimp only); first | omega | exact fun h => h)
set_option maxHeartbeats 4000000 in
theorem wk1_fitting (n : Nat) (hn : 4294967297 < n) {σ : wt_St} (x1 x2 x3 x4 : Int32) (v : wt_IV σ) (j : wu_Q1 σ) : wt_H (wp_ap_fitting n x1 x2 x3 x4 σ) (fun q => wt_H (wp_md_fitting n x1 x2 x3 x4 q.2.2) (fun r => wu_Q1 r.2)) := by
  refine (wq_ap_fitting n hn x1 x2 x3 x4 σ).h.imp (fun q hq => ?_)
  have fq := hq.1
  have v2 : wt_IV q.2.2 := wt_IV_cls v fq (fun k => (by (try dsimp only); first | omega | exact fun h => h | (intros; omega) | decide)) (fun i hi => (by (try dsimp only); first | omega | exact fun h => h | (intros; omega) | decide))
  refine (wq_md_fitting n hn x1 x2 x3 x4 q.2.2 v2.1).h.imp (fun r hr => ?_)
  have fr := hr.1
  exact wu_Q1_fr v.1 v2.1 j fq fr (fun i k h => by unfold wu_qF at h; (try dsimp only); first | omega | exact fun h => h) (fun i h => by unfold wu_qA at h; (try dsimp only); first | omega | exact fun h => h) (fun k => by (try dsimp only); first | omega | exact fun h => h) (fun i h => by (try dsimp only); first | omega | exact fun h => h) (fun i k h => by (try dsimp only); first | omega | exact fun h => h) (fun i h => by (try dsimp only); first | omega | exact fun h => h) (fun k h => by unfold wu_qG at h; (try dsimp only); first | omega | exact fun h => h) (fun i h => by unfold wu_qB at h; (try dsimp only); first | omega | exact fun h => h)
set_option maxHeartbeats 4000000 in
theorem wk1_wordings (n : Nat) (hn : 4294967297 < n) {σ : wt_St} (x1 : Int32) (v : wt_IV σ) (j : wu_Q1 σ) : wt_H (wp_ap_wordings n x1 σ) (fun q => wt_H (wp_md_wordings n x1 q.2.2) (fun r => wu_Q1 r.2)) := by
  refine (wq_ap_wordings n hn x1 σ).h.imp (fun q hq => ?_)
  have fq := hq.1
  have v2 : wt_IV q.2.2 := wt_IV_cls v fq (fun k => (by (try dsimp only); first | omega | exact fun h => h | (intros; omega) | decide)) (fun i hi => (by (try dsimp only); first | omega | exact fun h => h | (intros; omega) | decide))
  refine (wq_md_wordings n hn x1 q.2.2 v2.1).h.imp (fun r hr => ?_)
  have fr := hr.1
  exact wu_Q1_fr v.1 v2.1 j fq fr (fun i k h => by unfold wu_qF at h; (try dsimp only); first | omega | exact fun h => h) (fun i h => by unfold wu_qA at h; (try dsimp only); first | omega | exact fun h => h) (fun k => by (try dsimp only); first | omega | exact fun h => h) (fun i h => by (try dsimp only); first | omega | exact fun h => h) (fun i k h => by (try dsimp only); first | omega | exact fun h => h) (fun i h => by (try dsimp only); first | omega | exact fun h => h) (fun k h => by unfold wu_qG at h; (try dsimp only); first | omega | exact fun h => h) (fun i h => by unfold wu_qB at h; (try dsimp only); first | omega | exact fun h => h)
set_option maxHeartbeats 4000000 in
theorem wk1_want (n : Nat) (hn : 4294967297 < n) {σ : wt_St} (x1 x2 x3 x4 : Int32) (v : wt_IV σ) (j : wu_Q1 σ) : wt_H (wp_ap_want n x1 x2 x3 x4 σ) (fun q => wt_H (wp_md_want n x1 x2 x3 x4 q.2.2) (fun r => wu_Q1 r.2)) := by
  refine (wq_ap_want n hn x1 x2 x3 x4 σ).h.imp (fun q hq => ?_)
  have fq := hq.1
  have v2 : wt_IV q.2.2 := wt_IV_cls v fq (fun k => (by (try dsimp only); first | omega | exact fun h => h | (intros; omega) | decide)) (fun i hi => (by (try dsimp only); first | omega | exact fun h => h | (intros; omega) | decide))
  refine (wq_md_want n hn x1 x2 x3 x4 q.2.2 v2.1).h.imp (fun r hr => ?_)
  have fr := hr.1
  exact wu_Q1_fr v.1 v2.1 j fq fr (fun i k h => by unfold wu_qF at h; (try dsimp only); first | omega | exact fun h => h) (fun i h => by unfold wu_qA at h; (try dsimp only); first | omega | exact fun h => h) (fun k => by (try dsimp only); first | omega | exact fun h => h) (fun i h => by (try dsimp only); first | omega | exact fun h => h) (fun i k h => by (try dsimp only); first | omega | exact fun h => h) (fun i h => by (try dsimp only); first | omega | exact fun h => h) (fun k h => by unfold wu_qG at h; (try dsimp only); first | omega | exact fun h => h) (fun i h => by unfold wu_qB at h; (try dsimp only); first | omega | exact fun h => h)
set_option maxHeartbeats 4000000 in
theorem wk1_forget (n : Nat) (hn : 4294967297 < n) {σ : wt_St} (v : wt_IV σ) (j : wu_Q1 σ) : wt_H (wp_ap_forget n σ) (fun q => wt_H (wp_md_forget n q.2) (fun r => wu_Q1 r.2)) := by
  refine (wq_ap_forget n hn σ).h.imp (fun q hq => ?_)
  have fq := hq
  have v2 : wt_IV q.2 := wt_IV_cls v fq (fun k => (by (try dsimp only); first | omega | exact fun h => h | (intros; omega) | decide)) (fun i hi => (by (try dsimp only); first | omega | exact fun h => h | (intros; omega) | decide))
  refine (wq_md_forget n hn q.2 v2.1).h.imp (fun r hr => ?_)
  have fr := hr.1
  exact wu_Q1_fr v.1 v2.1 j fq fr (fun i k h => by unfold wu_qF at h; (try dsimp only); first | omega | exact fun h => h) (fun i h => by unfold wu_qA at h; (try dsimp only); first | omega | exact fun h => h) (fun k => by (try dsimp only); first | omega | exact fun h => h) (fun i h => by (try dsimp only); first | omega | exact fun h => h) (fun i k h => by (try dsimp only); first | omega | exact fun h => h) (fun i h => by (try dsimp only); first | omega | exact fun h => h) (fun k h => by unfold wu_qG at h; (try dsimp only); first | omega | exact fun h => h) (fun i h => by unfold wu_qB at h; (try dsimp only); first | omega | exact fun h => h)
set_option maxHeartbeats 4000000 in
theorem wk1_most (n : Nat) (hn : 4294967297 < n) {σ : wt_St} (x1 : Int32) (v : wt_IV σ) (j : wu_Q1 σ) : wt_H (wp_ap_most n x1 σ) (fun q => wt_H (wp_md_most n x1 q.2.2) (fun r => wu_Q1 r.2)) := by
  refine (wq_ap_most n hn x1 σ).h.imp (fun q hq => ?_)
  have fq := hq.1
  have v2 : wt_IV q.2.2 := wt_IV_cls v fq (fun k => (by (try dsimp only); first | omega | exact fun h => h | (intros; omega) | decide)) (fun i hi => (by (try dsimp only); first | omega | exact fun h => h | (intros; omega) | decide))
  refine (wq_md_most n hn x1 q.2.2 v2.1).h.imp (fun r hr => ?_)
  have fr := hr.1
  exact wu_Q1_fr v.1 v2.1 j fq fr (fun i k h => by unfold wu_qF at h; (try dsimp only); first | omega | exact fun h => h) (fun i h => by unfold wu_qA at h; (try dsimp only); first | omega | exact fun h => h) (fun k => by (try dsimp only); first | omega | exact fun h => h) (fun i h => by (try dsimp only); first | omega | exact fun h => h) (fun i k h => by (try dsimp only); first | omega | exact fun h => h) (fun i h => by (try dsimp only); first | omega | exact fun h => h) (fun k h => by unfold wu_qG at h; (try dsimp only); first | omega | exact fun h => h) (fun i h => by unfold wu_qB at h; (try dsimp only); first | omega | exact fun h => h)
set_option maxHeartbeats 4000000 in
theorem wk1_greedy (n : Nat) (hn : 4294967297 < n) {σ : wt_St} (x1 : Int32) (v : wt_IV σ) (j : wu_Q1 σ) : wt_H (wp_ap_greedy n x1 σ) (fun q => wt_H (wp_md_greedy n x1 q.2.2) (fun r => wu_Q1 r.2)) := by
  refine (wq_ap_greedy n hn x1 σ).h.imp (fun q hq => ?_)
  have fq := hq.1
  have v2 : wt_IV q.2.2 := wt_IV_cls v fq (fun k => (by (try dsimp only); first | omega | exact fun h => h | (intros; omega) | decide)) (fun i hi => (by (try dsimp only); first | omega | exact fun h => h | (intros; omega) | decide))
  refine (wq_md_greedy n hn x1 q.2.2 v2.1).h.imp (fun r hr => ?_)
  have fr := hr.1
  exact wu_Q1_fr v.1 v2.1 j fq fr (fun i k h => by unfold wu_qF at h; (try dsimp only); first | omega | exact fun h => h) (fun i h => by unfold wu_qA at h; (try dsimp only); first | omega | exact fun h => h) (fun k => by (try dsimp only); first | omega | exact fun h => h) (fun i h => by (try dsimp only); first | omega | exact fun h => h) (fun i k h => by (try dsimp only); first | omega | exact fun h => h) (fun i h => by (try dsimp only); first | omega | exact fun h => h) (fun k h => by unfold wu_qG at h; (try dsimp only); first | omega | exact fun h => h) (fun i h => by unfold wu_qB at h; (try dsimp only); first | omega | exact fun h => h)
set_option maxHeartbeats 4000000 in
theorem wk1_bound (n : Nat) (hn : 4294967297 < n) {σ : wt_St} (v : wt_IV σ) (j : wu_Q1 σ) : wt_H (wp_ap_bound n σ) (fun q => wt_H (wp_md_bound n q.2) (fun r => wu_Q1 r.2)) := by
  refine (wq_ap_bound n hn σ).h.imp (fun q hq => ?_)
  have fq := (by rw [hq]; exact wt_fr.rf : wt_fr (fun _ _ => False) (fun _ => False) σ q.2)
  have v2 : wt_IV q.2 := wt_IV_cls v fq (fun k => (by (try dsimp only); first | omega | exact fun h => h | (intros; omega) | decide)) (fun i hi => (by (try dsimp only); first | omega | exact fun h => h | (intros; omega) | decide))
  refine (wq_md_bound n hn q.2 v2.1).h.imp (fun r hr => ?_)
  have fr := hr.1
  exact wu_Q1_fr v.1 v2.1 j fq fr (fun i k h => by unfold wu_qF at h; (try dsimp only); first | omega | exact fun h => h) (fun i h => by unfold wu_qA at h; (try dsimp only); first | omega | exact fun h => h) (fun k => by (try dsimp only); first | omega | exact fun h => h) (fun i h => by (try dsimp only); first | omega | exact fun h => h) (fun i k h => by (try dsimp only); first | omega | exact fun h => h) (fun i h => by (try dsimp only); first | omega | exact fun h => h) (fun k h => by unfold wu_qG at h; (try dsimp only); first | omega | exact fun h => h) (fun i h => by unfold wu_qB at h; (try dsimp only); first | omega | exact fun h => h)
set_option maxHeartbeats 4000000 in
theorem wk1_said (n : Nat) (hn : 4294967297 < n) {σ : wt_St} (x1 x2 : Int32) (v : wt_IV σ) (j : wu_Q1 σ) : wt_H (wp_ap_said n x1 x2 σ) (fun q => wt_H (wp_md_said n x1 x2 q.2.2) (fun r => wu_Q1 r.2)) := by
  refine (wq_ap_said n hn x1 x2 σ).h.imp (fun q hq => ?_)
  have fq := hq.1
  have v2 : wt_IV q.2.2 := wt_IV_cls v fq (fun k => (by (try dsimp only); first | omega | exact fun h => h | (intros; omega) | decide)) (fun i hi => (by (try dsimp only); first | omega | exact fun h => h | (intros; omega) | decide))
  refine (wq_md_said n hn x1 x2 q.2.2 v2.1).h.imp (fun r hr => ?_)
  have fr := hr.1
  exact wu_Q1_fr v.1 v2.1 j fq fr (fun i k h => by unfold wu_qF at h; (try dsimp only); first | omega | exact fun h => h) (fun i h => by unfold wu_qA at h; (try dsimp only); first | omega | exact fun h => h) (fun k => by (try dsimp only); first | omega | exact fun h => h) (fun i h => by (try dsimp only); first | omega | exact fun h => h) (fun i k h => by (try dsimp only); first | omega | exact fun h => h) (fun i h => by (try dsimp only); first | omega | exact fun h => h) (fun k h => by unfold wu_qG at h; (try dsimp only); first | omega | exact fun h => h) (fun i h => by unfold wu_qB at h; (try dsimp only); first | omega | exact fun h => h)
set_option maxHeartbeats 4000000 in
theorem wk1_lost (n : Nat) (hn : 4294967297 < n) {σ : wt_St} (x1 : Int32) (v : wt_IV σ) (j : wu_Q1 σ) : wt_H (wp_ap_lost n x1 σ) (fun q => wt_H (wp_md_lost n x1 q.2.2) (fun r => wu_Q1 r.2)) := by
  refine (wq_ap_lost n hn x1 σ).h.imp (fun q hq => ?_)
  have fq := hq.1
  have v2 : wt_IV q.2.2 := wt_IV_cls v fq (fun k => (by (try dsimp only); first | omega | exact fun h => h | (intros; omega) | decide)) (fun i hi => (by (try dsimp only); first | omega | exact fun h => h | (intros; omega) | decide))
  refine (wq_md_lost n hn x1 q.2.2 v2.1).h.imp (fun r hr => ?_)
  have fr := hr.1
  exact wu_Q1_fr v.1 v2.1 j fq fr (fun i k h => by unfold wu_qF at h; (try dsimp only); first | omega | exact fun h => h) (fun i h => by unfold wu_qA at h; (try dsimp only); first | omega | exact fun h => h) (fun k => by (try dsimp only); first | omega | exact fun h => h) (fun i h => by (try dsimp only); first | omega | exact fun h => h) (fun i k h => by (try dsimp only); first | omega | exact fun h => h) (fun i h => by (try dsimp only); first | omega | exact fun h => h) (fun k h => by unfold wu_qG at h; (try dsimp only); first | omega | exact fun h => h) (fun i h => by unfold wu_qB at h; (try dsimp only); first | omega | exact fun h => h)
set_option maxHeartbeats 4000000 in
theorem wk1_ends (n : Nat) (hn : 4294967297 < n) {σ : wt_St} (x1 : Int32) (v : wt_IV σ) (j : wu_Q1 σ) : wt_H (wp_ap_ends n x1 σ) (fun q => wt_H (wp_md_ends n x1 q.2.2) (fun r => wu_Q1 r.2)) := by
  refine (wq_ap_ends n hn x1 σ).h.imp (fun q hq => ?_)
  have fq := hq.1
  have v2 : wt_IV q.2.2 := wt_IV_cls v fq (fun k => (by (try dsimp only); first | omega | exact fun h => h | (intros; omega) | decide)) (fun i hi => (by (try dsimp only); first | omega | exact fun h => h | (intros; omega) | decide))
  refine (wq_md_ends n hn x1 q.2.2 v2.1).h.imp (fun r hr => ?_)
  have fr := hr.1
  exact wu_Q1_fr v.1 v2.1 j fq fr (fun i k h => by unfold wu_qF at h; (try dsimp only); first | omega | exact fun h => h) (fun i h => by unfold wu_qA at h; (try dsimp only); first | omega | exact fun h => h) (fun k => by (try dsimp only); first | omega | exact fun h => h) (fun i h => by (try dsimp only); first | omega | exact fun h => h) (fun i k h => by (try dsimp only); first | omega | exact fun h => h) (fun i h => by (try dsimp only); first | omega | exact fun h => h) (fun k h => by unfold wu_qG at h; (try dsimp only); first | omega | exact fun h => h) (fun i h => by unfold wu_qB at h; (try dsimp only); first | omega | exact fun h => h)
set_option maxHeartbeats 4000000 in
theorem wk1_exchange (n : Nat) (hn : 4294967297 < n) {σ : wt_St} (x1 : Int32) (v : wt_IV σ) (j : wu_Q1 σ) : wt_H (wp_ap_exchange n x1 σ) (fun q => wt_H (wp_md_exchange n x1 q.2.2) (fun r => wu_Q1 r.2)) := by
  refine (wq_ap_exchange n hn x1 σ).h.imp (fun q hq => ?_)
  have fq := hq.1
  have v2 : wt_IV q.2.2 := wt_IV_cls v fq (fun k => (by (try dsimp only); first | omega | exact fun h => h | (intros; omega) | decide)) (fun i hi => (by (try dsimp only); first | omega | exact fun h => h | (intros; omega) | decide))
  refine (wq_md_exchange n hn x1 q.2.2 v2.1 v2.2.1).h.imp (fun r hr => ?_)
  have fr := hr.1
  exact wu_Q1_fr v.1 v2.1 j fq fr (fun i k h => by unfold wu_qF at h; (try dsimp only); first | omega | exact fun h => h) (fun i h => by unfold wu_qA at h; (try dsimp only); first | omega | exact fun h => h) (fun k => by (try dsimp only); first | omega | exact fun h => h) (fun i h => by (try dsimp only); first | omega | exact fun h => h) (fun i k h => by (try dsimp only); first | omega | exact fun h => h) (fun i h => by (try dsimp only); first | omega | exact fun h => h) (fun k h => by unfold wu_qG at h; (try dsimp only); first | omega | exact fun h => h) (fun i h => by unfold wu_qB at h; (try dsimp only); first | omega | exact fun h => h)
set_option maxHeartbeats 4000000 in
theorem wk1_cast (n : Nat) (hn : 4294967297 < n) {σ : wt_St} (x1 x2 : Int32) (v : wt_IV σ) (j : wu_Q1 σ) : wt_H (wp_ap_cast n x1 x2 σ) (fun q => wt_H (wp_md_cast n x1 x2 q.2.2) (fun r => wu_Q1 r.2)) := by
  refine (wq_ap_cast n hn x1 x2 σ).h.imp (fun q hq => ?_)
  have fq := hq.1
  have v2 : wt_IV q.2.2 := wt_IV_cls v fq (fun k => (by (try dsimp only); first | omega | exact fun h => h | (intros; omega) | decide)) (fun i hi => (by (try dsimp only); first | omega | exact fun h => h | (intros; omega) | decide))
  refine (wq_md_cast n hn x1 x2 q.2.2 v2.1 v2.2.1).h.imp (fun r hr => ?_)
  have fr := hr.1
  exact wu_Q1_fr v.1 v2.1 j fq fr (fun i k h => by unfold wu_qF at h; (try dsimp only); first | omega | exact fun h => h) (fun i h => by unfold wu_qA at h; (try dsimp only); first | omega | exact fun h => h) (fun k => by (try dsimp only); first | omega | exact fun h => h) (fun i h => by (try dsimp only); first | omega | exact fun h => h) (fun i k h => by (try dsimp only); first | omega | exact fun h => h) (fun i h => by (try dsimp only); first | omega | exact fun h => h) (fun k h => by unfold wu_qG at h; (try dsimp only); first | omega | exact fun h => h) (fun i h => by unfold wu_qB at h; (try dsimp only); first | omega | exact fun h => h)
set_option maxHeartbeats 4000000 in
theorem wk1_together (n : Nat) (hn : 4294967297 < n) {σ : wt_St} (x1 : Int32) (v : wt_IV σ) (j : wu_Q1 σ) : wt_H (wp_ap_together n x1 σ) (fun q => wt_H (wp_md_together n x1 q.2.2) (fun r => wu_Q1 r.2)) := by
  refine (wq_ap_together n hn x1 σ).h.imp (fun q hq => ?_)
  have fq := hq.1
  have v2 : wt_IV q.2.2 := wt_IV_cls v fq (fun k => (by (try dsimp only); first | omega | exact fun h => h | (intros; omega) | decide)) (fun i hi => (by (try dsimp only); first | omega | exact fun h => h | (intros; omega) | decide))
  refine (wq_md_together n hn x1 q.2.2 v2.1).h.imp (fun r hr => ?_)
  have fr := hr.1
  exact wu_Q1_fr v.1 v2.1 j fq fr (fun i k h => by unfold wu_qF at h; (try dsimp only); first | omega | exact fun h => h) (fun i h => by unfold wu_qA at h; (try dsimp only); first | omega | exact fun h => h) (fun k => by (try dsimp only); first | omega | exact fun h => h) (fun i h => by (try dsimp only); first | omega | exact fun h => h) (fun i k h => by (try dsimp only); first | omega | exact fun h => h) (fun i h => by (try dsimp only); first | omega | exact fun h => h) (fun k h => by unfold wu_qG at h; (try dsimp only); first | omega | exact fun h => h) (fun i h => by unfold wu_qB at h; (try dsimp only); first | omega | exact fun h => h)
set_option maxHeartbeats 4000000 in
theorem wk1_count (n : Nat) (hn : 4294967297 < n) {σ : wt_St} (x1 : Int32) (v : wt_IV σ) (j : wu_Q1 σ) : wt_H (wp_ap_count n x1 σ) (fun q => wt_H (wp_md_count n x1 q.2) (fun r => wu_Q1 r.2)) := by
  refine (wq_ap_count n hn x1 σ).h.imp (fun q hq => ?_)
  have fq := (by rw [hq]; exact wt_fr.rf : wt_fr (fun _ _ => False) (fun _ => False) σ q.2)
  have v2 : wt_IV q.2 := wt_IV_cls v fq (fun k => (by (try dsimp only); first | omega | exact fun h => h | (intros; omega) | decide)) (fun i hi => (by (try dsimp only); first | omega | exact fun h => h | (intros; omega) | decide))
  refine (wq_md_count n hn x1 q.2 v2.1).h.imp (fun r hr => ?_)
  have fr := hr.1
  exact wu_Q1_fr v.1 v2.1 j fq fr (fun i k h => by unfold wu_qF at h; (try dsimp only); first | omega | exact fun h => h) (fun i h => by unfold wu_qA at h; (try dsimp only); first | omega | exact fun h => h) (fun k => by (try dsimp only); first | omega | exact fun h => h) (fun i h => by (try dsimp only); first | omega | exact fun h => h) (fun i k h => by (try dsimp only); first | omega | exact fun h => h) (fun i h => by (try dsimp only); first | omega | exact fun h => h) (fun k h => by unfold wu_qG at h; (try dsimp only); first | omega | exact fun h => h) (fun i h => by unfold wu_qB at h; (try dsimp only); first | omega | exact fun h => h)
end WTQ8
