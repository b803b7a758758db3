theorem wh_stands (n : Nat) (hn : 4294967297 < n) {x : Int32} {s : wt_St} : wt_H (wp_pg_stands n x s) (fun q => q.2 = s ∧ ((q.1 = 1 ∧ (0 ≤ x.toInt ∧ x.toInt < 4) ∧ (wt_ga s 43 (Int32.toNatClampNeg x)).toInt ≠ -1) ∨ (q.1 = 0 ∧ ¬ ((0 ≤ x.toInt ∧ x.toInt < 4) ∧ (wt_ga s 43 (Int32.toNatClampNeg x)).toInt ≠ -1)))) := by
  have k0 : (0 : Int32).toInt = 0 := by decide
  have k4 : (4 : Int32).toInt = 4 := by decide
  unfold wp_pg_stands
  refine wt_H_if (fun c => ?_) (fun c => wt_H_if (fun d => ?_) (fun d => ?_))
  · have := wt_clt c
    exact wt_H_some ⟨rfl, Or.inr ⟨rfl, by omega⟩⟩
  · have := wt_cle d
    exact wt_H_some ⟨rfl, Or.inr ⟨rfl, by omega⟩⟩
  · have c' := wt_ncl c
    have d' := wt_ncle d
    have et := wt_tnI (x := x) (by omega)
    refine wt_H_bh (wh_look n hn (k := Int32.toNatClampNeg x) (by omega) (by rw [show wt_ln 43 = 4 from by decide]; omega)) (fun q hq => ?_)
    subst hq
    dsimp only
    refine wt_H_if (fun e => ?_) (fun e => ?_)
    · have e' := (wt_ceq e).trans wt_lm1
      exact wt_H_some ⟨rfl, Or.inr ⟨rfl, fun h => h.2 e'⟩⟩
    · have e' := wt_nceq e
      rw [wt_lm1] at e'
      exact wt_H_some ⟨rfl, Or.inl ⟨rfl, by omega, e'⟩⟩
theorem wh_firstFree (n : Nat) (hn : 4294967297 < n) {s : wt_St} : wt_H (wp_pg_firstFree n s) (fun q => q.2 = s ∧ wt_fst 4 (fun g => (wt_ga s 43 g).toInt = -1) q.1) := by
  have k0 : (0 : Int32).toInt = 0 := by decide
  have k4 : (4 : Int32).toInt = 4 := by decide
  unfold wp_pg_firstFree
  refine wt_H_it (fun t : Int32 × wt_St => t.2 = s ∧ 0 ≤ t.1.toInt ∧ ∀ g : Nat, (g : Int) < t.1.toInt → ¬ (wt_ga s 43 g).toInt = -1) (fun K t I hK => ?_) n _ ⟨rfl, by show 0 ≤ ((0 : Int32)).toInt; omega, fun k hk => absurd (show (k : Int) < ((0 : Int32)).toInt from hk) (by omega)⟩
  obtain ⟨i0, i1, i2⟩ := I
  have et := wt_tnI i1
  unfold wp_pg_firstFree_B2
  rw [i0]
  refine wt_H_if (fun c => ?_) (fun c => ?_)
  · have c' := wt_cle c
    exact wt_H_some ⟨rfl, Or.inr ⟨rfl, fun v hv => i2 v (by omega)⟩⟩
  · have c' := wt_ncle c
    have ei := wt_i1 (c := t.1) (by omega)
    refine wt_H_bh (wh_stands n hn) (fun q hq => ?_)
    obtain ⟨e, hq⟩ := hq
    rw [e]
    rcases hq with ⟨z, -, h⟩ | ⟨z, h⟩
    · rw [if_neg (by rw [z]; decide)]
      refine hK _ ⟨rfl, by show 0 ≤ (t.1 + (1 : Int32)).toInt; omega, fun g hg => ?_⟩
      have hg' : (g : Int) < (t.1 + (1 : Int32)).toInt := hg
      by_cases hc : g = Int32.toNatClampNeg t.1
      · rw [hc]; exact h
      · exact i2 g (by omega)
    · rw [if_pos z]
      refine wt_H_some ⟨rfl, Or.inl ⟨Int32.toNatClampNeg t.1, by omega, by (try dsimp only); omega, ?_, fun v hv => i2 v (by omega)⟩⟩
      by_cases hc : (wt_ga s 43 (Int32.toNatClampNeg t.1)).toInt = -1
      · exact hc
      · exact absurd ⟨⟨i1, by omega⟩, hc⟩ h
/-- the reference puts the taken pieces down on the page -/
theorem wh_setTail (n : Nat) {g K : Nat} {x x3 : Int32} {z : wt_St} (hg : x3.toInt = (g : Int)) (hg4 : g < 4) (hK : (wt_gf z 108 54).toInt = (K : Int)) (hK8 : K ≤ 108) : wt_H (wt_it (wp_md_set_B122 n x3) n ((0 : Int32), (wt_sa (wt_sa z 275 g x) 276 g (wt_gf (wt_sa z 275 g x) 108 54)))) (fun y => y.1 = x3 ∧ wt_fr (fun _ _ => False) (fun i => i = 275 ∨ i = 276 ∨ i = 278 + g) z y.2 ∧ wt_ga y.2 275 g = x ∧ (∀ j, j ≠ g → wt_ga y.2 275 j = wt_ga z 275 j) ∧ (wt_ga y.2 276 g).toInt = (K : Int) ∧ (∀ j, j ≠ g → wt_ga y.2 276 j = wt_ga z 276 j) ∧ ∀ k, k < K → wt_ga y.2 (278 + g) k = wt_ga z 288 k) := by
  have k0 : (0 : Int32).toInt = 0 := by decide
  have eg : Int32.toNatClampNeg x3 = g := wt_tnN hg
  obtain ⟨s1, ε1⟩ : ∃ o : wt_St, o = wt_sa z 275 g x := ⟨_, rfl⟩
  rw [← ε1]
  have f1 := wt_fr_sa ε1
  have e54 : wt_gf s1 108 54 = wt_gf z 108 54 := f1.1 108 54 (fun h => h)
  rw [e54]
  obtain ⟨s2, ε2⟩ : ∃ o : wt_St, o = wt_sa s1 276 g (wt_gf z 108 54) := ⟨_, rfl⟩
  rw [← ε2]
  have f2 := wt_fr_sa ε2
  have F2 : wt_fr (fun _ _ => False) (fun i => i = 275 ∨ i = 276) z s2 := (wt_fr.rf.sa ε1 (by first | decide | ((try dsimp only); omega))).sa ε2 (by first | decide | ((try dsimp only); omega))
  refine wt_H_it (fun t : Int32 × wt_St => 0 ≤ t.1.toInt ∧ wt_fr (fun _ _ => False) (fun i => i = 278 + g) s2 t.2 ∧ ∀ k : Nat, (k : Int) < t.1.toInt → wt_ga t.2 (278 + g) k = wt_ga z 288 k) (fun KK t I hKK => ?_) n _ ⟨by show 0 ≤ ((0 : Int32)).toInt; omega, wt_fr.rf, fun k hk => absurd (show (k : Int) < ((0 : Int32)).toInt from hk) (by omega)⟩
  obtain ⟨i0, f, i1⟩ := I
  have et := wt_tnI i0
  unfold wp_md_set_B122
  rw [f.1 108 54 (fun h => h), F2.1 108 54 (fun h => h), eg]
  refine wt_H_if (fun c => ?_) (fun c => ?_)
  · have c' := wt_cle c
    refine wt_H_some ⟨rfl, wt_fr.tr (wt_frw F2 (fun i k h => h) (fun i h => by (try dsimp only at h ⊢); omega)) f (fun i k h => h) (fun i h => Or.inr (Or.inr h)), ?_, fun j hj => ?_, ?_, fun j hj => ?_, fun k hk => i1 k (by omega)⟩
    · rw [f.2 275 (by (try dsimp only); omega), f2.2 275 (by decide)]; exact wt_v_sa ε1
    · rw [f.2 275 (by (try dsimp only); omega), f2.2 275 (by decide)]; exact wt_w_sa ε1 j hj
    · rw [f.2 276 (by (try dsimp only); omega), wt_v_sa ε2]; exact hK
    · rw [f.2 276 (by (try dsimp only); omega), wt_w_sa ε2 j hj]; exact f1.2 276 (by decide) j
  · have c' := wt_ncle c
    have ei := wt_i1 (c := t.1) (by omega)
    refine wt_H_gd (fun _ => ?_)
    refine wt_H_gd (fun _ => ?_)
    refine wt_H_gd (fun _ => ?_)
    obtain ⟨s3, ε3⟩ : ∃ o : wt_St, o = wt_sa t.2 (278 + g) (Int32.toNatClampNeg t.1) (wt_ga t.2 288 (Int32.toNatClampNeg t.1)) := ⟨_, rfl⟩
    rw [← ε3]
    refine hKK _ ⟨by show 0 ≤ (t.1 + (1 : Int32)).toInt; omega, f.sa ε3 rfl, fun k hk => ?_⟩
    have hk' : (k : Int) < (t.1 + (1 : Int32)).toInt := hk
    show wt_ga s3 (278 + g) k = _
    by_cases hc : k = Int32.toNatClampNeg t.1
    · rw [hc, wt_v_sa ε3, f.2 288 (by (try dsimp only); omega)]; exact F2.2 288 (by decide) _
    · rw [wt_w_sa ε3 k hc]; exact i1 k (by omega)
set_option maxHeartbeats 4000000 in
/-- pieces on the new page and all that stood -/
theorem wu_SC_set {g K : Nat} {x1 : Int32} {s0 z0 s1 z1 s z q y : wt_St} (hg4 : g < 4) (hx : 0 ≤ x1.toInt) (v : wt_IV z0) (sc : wu_SC s0 z0) (free : (wt_ga z0 275 g).toInt = -1) (f1 : wt_fr (fun _ _ => False) (fun i => i = 78) s0 s1) (h1 : wt_fr (fun i k => i = 108 ∧ (k = 0 ∨ k = 54)) (fun i => i = 287) z0 z1) (st : wu_ST g s1 z1 s z 26 0 K) (eq : q = wt_sa s 43 g x1) (fy : wt_fr (fun _ _ => False) (fun i => i = 275 ∨ i = 276 ∨ i = 278 + g) z y) (y1 : wt_ga y 275 g = x1) (y2 : ∀ j, j ≠ g → wt_ga y 275 j = wt_ga z 275 j) (y3 : (wt_ga y 276 g).toInt = (K : Int)) (y4 : ∀ j, j ≠ g → wt_ga y 276 j = wt_ga z 276 j) (y5 : ∀ k, k < K → wt_ga y (278 + g) k = wt_ga z 288 k) : wu_SC q y := by
  obtain ⟨⟨fs, fz⟩, ⟨s1', s2'⟩, s3, s4, s5, s6, s7, s8⟩ := st
  have fq := wt_fr_sa eq
  have FQ : wt_fr (fun _ _ => False) (fun i => i = 78 ∨ i = 41 ∨ i = 42 ∨ i = 43) s0 q := wt_fr.sa (wt_fr.tr (wt_frw f1 (fun i k h => h) (fun i h => Or.inl h)) fs (fun i k h => h) (fun i h => by (try dsimp only at h ⊢); omega)) eq (Or.inr (Or.inr (Or.inr rfl)))
  have FZ : wt_fr (fun i k => i = 108 ∧ (k = 0 ∨ k = 54)) (fun i => i = 287 ∨ i = 124 ∨ i = 288) z0 z := wt_fr.tr (wt_frw h1 (fun i k h => h) (fun i h => Or.inl h)) fz (fun i k h => by (try dsimp only at h ⊢); omega) (fun i h => by (try dsimp only at h ⊢); omega)
  have FY : wt_fr (fun i k => i = 108 ∧ (k = 0 ∨ k = 54)) (fun i => i = 287 ∨ i = 124 ∨ i = 288 ∨ i = 275 ∨ i = 276 ∨ i = 278 + g) z0 y := wt_fr.tr (wt_frw FZ (fun i k h => h) (fun i h => by (try dsimp only at h ⊢); omega)) fy (fun i k h => h.elim) (fun i h => by (try dsimp only at h ⊢); omega)
  have em : wt_ga y 111 = wt_ga z0 111 := funext (FY.2 111 (by (try dsimp only); omega))
  have m1 : ∀ l, wt_ga z1 111 l = wt_ga z0 111 l := h1.2 111 (by decide)
  have q41 : ∀ j, wt_ga q 41 j = wt_ga s 41 j := fq.2 41 (by decide)
  have q42 : ∀ j, wt_ga q 42 j = wt_ga s 42 j := fq.2 42 (by decide)
  have yon : ∀ j, wt_ga y 124 j = wt_ga z 124 j := fy.2 124 (by (try dsimp only); omega)
  have zon : ∀ j, wt_ga z1 124 j = wt_ga z0 124 j := h1.2 124 (by decide)
  have Z275 : ∀ j, wt_ga z 275 j = wt_ga z0 275 j := FZ.2 275 (by decide)
  have Z276 : ∀ j, wt_ga z 276 j = wt_ga z0 276 j := FZ.2 276 (by decide)
  refine ⟨?_, ?_, fun l hl => ?_, fun g' hg' => ?_⟩
  · rw [FQ.1 39 9 (fun h => h), FY.1 108 26 (by decide)]; exact wu_SC_SH sc
  · exact wu_SW_eq (wu_SC_SW sc) (by rw [FY.1 108 39 (by decide)]; exact Int.le_refl _) (fun i p q => FQ.2 i (by (try dsimp only); omega)) (FQ.1 39 8 (fun h => h)) (fun i p q => FY.2 i (by (try dsimp only); omega)) (FY.1 108 40 (by decide))
  · rw [em]
    obtain ⟨p1, p2⟩ := sc.2.2.1 l hl
    refine ⟨fun i hi => ?_, fun i hi hj => ?_⟩
    · obtain ⟨a1, a2, a3⟩ := p1 i hi
      have a1' : wt_ga s0 40 (12 * l + i) = wt_ga z0 121 (13 * l + i) := a1
      obtain ⟨c1, c2, c3⟩ := s3 l i hl (by rw [m1]; exact hi)
      refine ⟨?_, ?_, ?_⟩
      · show wt_ga q 40 (12 * l + i) = wt_ga y 121 (13 * l + i)
        rw [FQ.2 40 (by decide), FY.2 121 (by (try dsimp only); omega)]; exact a1'
      · show wt_ga q 41 (12 * l + i) = wt_ga y 124 (13 * l + i)
        rw [q41, yon]; exact c1
      · rw [yon]
        rcases c2 with c2 | ⟨c2, c2'⟩
        · rw [c2, zon]
          rcases a3 with a3 | ⟨g', b1, b2, b3⟩
          · exact Or.inl a3
          · refine Or.inr ⟨g', b1, b2, ?_⟩
            by_cases hq : g' = g
            · rw [hq, y1]; omega
            · rw [y2 g' hq, Z275]; exact b3
        · exact Or.inr ⟨g, hg4, c2', by rw [y1]; omega⟩
    · show (wt_ga q 41 (12 * l + i)).toInt = -1
      rw [q41, s4 l i hl hi (by rw [m1]; exact hj), f1.2 41 (by decide)]
      exact p2 i hi hj
  · rw [em]
    show wt_ga q 43 g' = wt_ga y 275 g' ∧ ((wt_ga y 275 g').toInt ≠ -1 → (∀ k : Nat, (k : Int) < (wt_ga y 276 g').toInt → ∃ l i : Nat, l < 26 ∧ (i : Int) < (wt_ga z0 111 l).toInt ∧ (wt_ga y (278 + g') k).toInt = ((13 * l + i : Nat) : Int) ∧ (wt_ga y 124 (13 * l + i)).toInt = (g' : Int) ∧ (wt_ga q 42 (12 * l + i)).toInt = wt_ct (fun k' => (wt_ga y (278 + g') k').toInt / 13) (l : Int) k) ∧ ∀ l i : Nat, l < 26 → (i : Int) < (wt_ga z0 111 l).toInt → (wt_ga y 124 (13 * l + i)).toInt = (g' : Int) → ∃ k : Nat, (k : Int) < (wt_ga y 276 g').toInt ∧ (wt_ga y (278 + g') k).toInt = ((13 * l + i : Nat) : Int))
    by_cases hq : g' = g
    · subst hq
      rw [y1, y3]
      refine ⟨wt_v_sa eq, fun _ => ⟨fun k hk => ?_, fun l i hl hi ho => ?_⟩⟩
      · obtain ⟨l, i, u1, u2, u3, u4, u5⟩ := s5 k (by omega)
        refine ⟨l, i, u1, by rw [← m1]; exact u2, by rw [y5 k (by omega)]; exact u3, by rw [yon]; exact u4, ?_⟩
        rw [q42, u5]
        exact (wt_ct_congr k (fun k' hk' => by show (wt_ga z 288 k').toInt / 13 = (wt_ga y (278 + g') k').toInt / 13; rw [y5 k' (by omega)]))
      · rw [yon] at ho
        obtain ⟨k, w1, w2⟩ := s6 l i hl (by rw [m1]; exact hi) ho
        exact ⟨k, by omega, by rw [y5 k w1]; exact w2⟩
    · obtain ⟨p1, p2⟩ := sc.2.2.2 g' hg'
      have p1' : wt_ga s0 43 g' = wt_ga z0 275 g' := p1
      rw [y2 g' hq, y4 g' hq, Z275, Z276]
      have Y278 : ∀ k, wt_ga y (278 + g') k = wt_ga z0 (278 + g') k := FY.2 (278 + g') (by (try dsimp only); omega)
      refine ⟨?_, fun hne => ⟨fun k hk => ?_, fun l i hl hi ho => ?_⟩⟩
      · rw [wt_w_sa eq g' hq, fs.2 43 (by decide), f1.2 43 (by decide)]; exact p1'
      · obtain ⟨l, i, u1, u2, u3, u4, u5⟩ := (p2 hne).1 k hk
        obtain ⟨c1, c2, c3⟩ := s3 l i u1 (by rw [m1]; exact u2)
        have on : wt_ga z 124 (13 * l + i) = wt_ga z0 124 (13 * l + i) := by
          rcases c2 with c2 | ⟨c2, -⟩
          · rw [c2, zon]
          · rw [zon] at c2; omega
        refine ⟨l, i, u1, u2, by rw [Y278]; exact u3, by rw [yon, on]; exact u4, ?_⟩
        rw [q42, c3 (by rw [on]; omega), f1.2 42 (by decide)]
        have u5' : (wt_ga s0 42 (12 * l + i)).toInt = wt_ct (fun k' => (wt_ga z0 (278 + g') k').toInt / 13) (l : Int) k := u5
        rw [u5']
        exact (wt_ct_congr k (fun k' hk' => by show (wt_ga z0 (278 + g') k').toInt / 13 = (wt_ga y (278 + g') k').toInt / 13; rw [Y278]))
      · rw [yon] at ho
        obtain ⟨c1, c2, c3⟩ := s3 l i hl (by rw [m1]; exact hi)
        have on : (wt_ga z0 124 (13 * l + i)).toInt = (g' : Int) := by
          rcases c2 with c2 | ⟨-, c2⟩
          · rw [← zon, ← c2]; exact ho
          · omega
        obtain ⟨k, w1, w2⟩ := (p2 hne).2 l i hl hi on
        exact ⟨k, w1, by rw [Y278]; exact w2⟩
