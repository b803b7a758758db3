/-! an image is laid into a row, or taken out of it: row and state are alike then -/
theorem wh_moves (n : Nat) {a1 p : Nat} {x2 x3 : Int32} {s : wt_St} (hp : (wt_gf s 108 42).toInt = (p : Int)) (hp2 : p < 1158) : wt_H (wp_md_moves n a1 x2 x3 s) (fun q => wt_fr (fun i k => i = 108 ∧ k = 42) (fun i => i = a1) s q.2 ∧ (wt_gf q.2 108 42).toInt = ((p + 1 : Nat) : Int) ∧ q.1 = wt_ga q.2 a1 p ∧ ∀ j, j ≠ p → wt_ga q.2 a1 j = wt_ga s a1 j) := by
  have k1 : (1 : Int32).toInt = 1 := by decide
  have ep : Int32.toNatClampNeg (wt_gf s 108 42) = p := wt_tnN hp
  have B : ∀ s' : wt_St, wt_fr (fun _ _ => False) (fun i => i = a1) s s' → (∀ j, j ≠ p → wt_ga s' a1 j = wt_ga s a1 j) → wt_H (wp_md_moves_B11 n a1 s') (fun q => wt_fr (fun i k => i = 108 ∧ k = 42) (fun i => i = a1) s q.2 ∧ (wt_gf q.2 108 42).toInt = ((p + 1 : Nat) : Int) ∧ q.1 = wt_ga q.2 a1 p ∧ ∀ j, j ≠ p → wt_ga q.2 a1 j = wt_ga s a1 j) := by
    intro s' f' o'
    unfold wp_md_moves_B11
    have e42 : wt_gf s' 108 42 = wt_gf s 108 42 := f'.1 108 42 (fun h => h)
    rw [e42]
    obtain ⟨s1, ε1⟩ : ∃ o : wt_St, o = wt_sf s' 108 42 ((wt_gf s 108 42) + (1 : Int32)) := ⟨_, rfl⟩
    rw [← ε1]
    have f1 := wt_fr_sf ε1
    have v1 := wt_v_sf ε1
    have ei := wt_i1 (c := wt_gf s 108 42) (by omega)
    have es := wt_subE (x := wt_gf s1 108 42) (y := (1 : Int32)) (by rw [v1]; omega) (by rw [v1]; omega)
    have ee : (wt_gf s1 108 42) - (1 : Int32) = wt_gf s 108 42 := wt_eqI (by rw [es, v1]; omega)
    rw [ee, ep]
    refine wt_H_gd (fun _ => wt_H_some ⟨(wt_frw f' (fun i k h => h.elim) (fun i h => h)).sf ε1 ⟨rfl, rfl⟩, ?_, rfl, fun j hj => ?_⟩)
    · show (wt_gf s1 108 42).toInt = _
      rw [v1]; omega
    · show wt_ga s1 a1 j = _
      rw [f1.2 a1 (fun h => h)]; exact o' j hj
  unfold wp_md_moves
  refine wt_H_if (fun _ => ?_) (fun _ => B s wt_fr.rf (fun _ _ => rfl))
  refine wt_H_gd (fun _ => ?_)
  rw [ep]
  exact B _ (wt_frw (wt_fr_sa rfl) (fun i k h => h) (fun i h => h)) (fun j hj => wt_w_sa rfl j hj)
/-- habit, wants, pieces: as the row has them -/
def wu_E1 (a1 m : Nat) (s : wt_St) : Prop := wt_gf s 108 26 = wt_ga s a1 0 ∧ wt_gf s 108 40 = wt_ga s a1 1 ∧ ∀ k, k < m → wt_ga s 121 k = wt_ga s a1 (2 + 2 * k) ∧ wt_ga s 124 k = wt_ga s a1 (3 + 2 * k)
theorem wu_E1_fr {a1 m p : Nat} {s s' : wt_St} {F : Nat → Nat → Prop} {A : Nat → Prop} (h : wu_E1 a1 m s) (f : wt_fr F A s s') (hF : ¬ F 108 26 ∧ ¬ F 108 40) (hA : ¬ A 121 ∧ ¬ A 124) (o : ∀ j, j < p → wt_ga s' a1 j = wt_ga s a1 j) (hp : 2 + 2 * m ≤ p) : wu_E1 a1 m s' := by
  obtain ⟨a, b, c⟩ := h
  refine ⟨by rw [f.1 108 26 hF.1, o 0 (by omega)]; exact a, by rw [f.1 108 40 hF.2, o 1 (by omega)]; exact b, fun k hk => ?_⟩
  rw [f.2 121 hA.1, f.2 124 hA.2, o _ (by omega), o _ (by omega)]
  exact c k hk
def wu_E4 (a1 m : Nat) (s : wt_St) : Prop := ∀ w j, j < 4 → 4 * w + j < m → wt_ga s (264 + w) j = wt_ga s a1 (1118 + 4 * w + j)
set_option maxRecDepth 100000 in
set_option maxHeartbeats 8000000 in
theorem wh_movesAll (n : Nat) {a1 : Nat} {x2 : Int32} {σ : wt_St} (h1 : 283 ≤ a1) (h2 : a1 < 286) : wt_H (wp_md_movesAll n a1 x2 σ) (fun q => wu_E1 a1 338 q ∧ wu_E4 a1 40 q) := by
  have k0 : (0 : Int32).toInt = 0 := by decide
  have k4 : (4 : Int32).toInt = 4 := by decide
  have k10 : (10 : Int32).toInt = 10 := by decide
  have k108 : (108 : Int32).toInt = 108 := by decide
  have k338 : (338 : Int32).toInt = 338 := by decide
  -- the wants
  have W : ∀ s : wt_St, (wt_gf s 108 42).toInt = 1118 → wu_E1 a1 338 s → wt_H (wt_it (wp_md_movesAll_B175 n a1 x2) n ((0 : Int32), s)) (fun q => wu_E1 a1 338 q ∧ wu_E4 a1 40 q) := by
    intro s hs he
    refine wt_H_it (fun t : Int32 × wt_St => 0 ≤ t.1.toInt ∧ t.1.toInt ≤ 10 ∧ (wt_gf t.2 108 42).toInt = 1118 + 4 * t.1.toInt ∧ wu_E1 a1 338 t.2 ∧ wu_E4 a1 (4 * Int32.toNatClampNeg t.1) t.2) (fun K t I hK => ?_) n _ ⟨by show 0 ≤ ((0 : Int32)).toInt; omega, by show ((0 : Int32)).toInt ≤ 10; omega, by show (wt_gf s 108 42).toInt = 1118 + 4 * ((0 : Int32)).toInt; rw [k0]; omega, he, fun w j _ hj => absurd hj (by show ¬ 4 * w + j < 4 * Int32.toNatClampNeg (0 : Int32); rw [wt_tn0]; omega)⟩
    obtain ⟨i0, i1, i2, i3, i4⟩ := I
    have et := wt_tnI i0
    unfold wp_md_movesAll_B175
    refine wt_H_if (fun c => ?_) (fun c => ?_)
    · have c' := wt_cle c
      have e10 : 4 * Int32.toNatClampNeg t.1 = 40 := by omega
      rw [e10] at i4
      exact wt_H_some ⟨i3, i4⟩
    · have c' := wt_ncle c
      have ei := wt_i1 (c := t.1) (by omega)
      refine wt_H_it (fun u : Int32 × wt_St => 0 ≤ u.1.toInt ∧ u.1.toInt ≤ 4 ∧ (wt_gf u.2 108 42).toInt = 1118 + 4 * t.1.toInt + u.1.toInt ∧ wu_E1 a1 338 u.2 ∧ wu_E4 a1 (4 * Int32.toNatClampNeg t.1 + Int32.toNatClampNeg u.1) u.2) (fun K2 u J hK2 => ?_) n _ ⟨by show 0 ≤ ((0 : Int32)).toInt; omega, by show ((0 : Int32)).toInt ≤ 4; omega, by show (wt_gf t.2 108 42).toInt = 1118 + 4 * t.1.toInt + ((0 : Int32)).toInt; rw [k0]; omega, i3, by show wu_E4 a1 (4 * Int32.toNatClampNeg t.1 + Int32.toNatClampNeg (0 : Int32)) _; rw [wt_tn0]; exact i4⟩
      obtain ⟨j0, j1, j2, j3, j4⟩ := J
      have eu := wt_tnI j0
      unfold wp_md_movesAll_B184
      refine wt_H_if (fun d => ?_) (fun d => ?_)
      · have d' := wt_cle d
        refine hK _ ⟨by show 0 ≤ (t.1 + (1 : Int32)).toInt; omega, by show (t.1 + (1 : Int32)).toInt ≤ 10; omega, by show (wt_gf u.2 108 42).toInt = 1118 + 4 * (t.1 + (1 : Int32)).toInt; omega, j3, ?_⟩
        show wu_E4 a1 (4 * Int32.toNatClampNeg (t.1 + (1 : Int32))) u.2
        have e5 : 4 * Int32.toNatClampNeg (t.1 + (1 : Int32)) = 4 * Int32.toNatClampNeg t.1 + Int32.toNatClampNeg u.1 := by have := wt_tnI (x := t.1 + (1 : Int32)) (by omega); omega
        rw [e5]
        exact j4
      · have d' := wt_ncle d
        have ej := wt_i1 (c := u.1) (by omega)
        refine wt_H_gd (fun _ => ?_)
        refine wt_H_gd (fun _ => ?_)
        refine wt_H_gd (fun _ => ?_)
        refine wt_H_bh (wh_moves n (p := 1118 + 4 * Int32.toNatClampNeg t.1 + Int32.toNatClampNeg u.1) (by omega) (by omega)) (fun q hq => ?_)
        obtain ⟨fq, q1, q2, q3⟩ := hq
        refine wt_H_gd (fun _ => ?_)
        obtain ⟨s1, ε⟩ : ∃ o : wt_St, o = wt_sa q.2 (264 + Int32.toNatClampNeg t.1) (Int32.toNatClampNeg u.1) q.1 := ⟨_, rfl⟩
        rw [← ε]
        have f1 := wt_fr_sa ε
        have a1s : ∀ j, wt_ga s1 a1 j = wt_ga q.2 a1 j := f1.2 a1 (by (try dsimp only); omega)
        have FF : wt_fr (fun i k => i = 108 ∧ k = 42) (fun i => i = a1 ∨ i = 264 + Int32.toNatClampNeg t.1) u.2 s1 := wt_fr.sa (wt_frw fq (fun i k h => h) (fun i h => Or.inl h)) ε (Or.inr rfl)
        refine hK2 _ ⟨by show 0 ≤ (u.1 + (1 : Int32)).toInt; omega, by show (u.1 + (1 : Int32)).toInt ≤ 4; omega, ?_, wu_E1_fr (p := 678) j3 FF ⟨by decide, by decide⟩ ⟨by (try dsimp only); omega, by (try dsimp only); omega⟩ (fun j hj => by rw [a1s]; exact q3 j (by omega)) (by omega), fun w j hj hw => ?_⟩
        · show (wt_gf s1 108 42).toInt = 1118 + 4 * t.1.toInt + (u.1 + (1 : Int32)).toInt
          rw [f1.1 108 42 (fun h => h)]; omega
        · have hw' : 4 * w + j < 4 * Int32.toNatClampNeg t.1 + Int32.toNatClampNeg (u.1 + (1 : Int32)) := hw
          have eu1 : Int32.toNatClampNeg (u.1 + (1 : Int32)) = Int32.toNatClampNeg u.1 + 1 := by have := wt_tnI (x := u.1 + (1 : Int32)) (by omega); omega
          show wt_ga s1 (264 + w) j = wt_ga s1 a1 (1118 + 4 * w + j)
          rw [a1s]
          by_cases hc : w = Int32.toNatClampNeg t.1 ∧ j = Int32.toNatClampNeg u.1
          · rw [hc.1, hc.2, wt_v_sa ε, q2]
          · have e9 : wt_ga s1 (264 + w) j = wt_ga u.2 (264 + w) j := by
              by_cases hc2 : w = Int32.toNatClampNeg t.1
              · rw [hc2, wt_w_sa ε j (fun h => hc ⟨hc2, h⟩)]
                exact fq.2 _ (by (try dsimp only); omega) j
              · rw [f1.2 (264 + w) (by (try dsimp only); omega)]
                by_cases hc3 : 264 + w = a1
                · omega
                · exact fq.2 _ hc3 j
            rw [e9, q3 _ (by omega)]
            exact j4 w j hj (by omega)
  -- the pages
  have PGS : ∀ s : wt_St, (wt_gf s 108 42).toInt = 678 → wu_E1 a1 338 s → wt_H (wt_it (wp_md_movesAll_B86 n a1 x2) n ((0 : Int32), s)) (fun q => wu_E1 a1 338 q ∧ wu_E4 a1 40 q) := by
    intro s hs he
    refine wt_H_it (fun t : Int32 × wt_St => 0 ≤ t.1.toInt ∧ t.1.toInt ≤ 4 ∧ (wt_gf t.2 108 42).toInt = 678 + 110 * t.1.toInt ∧ wu_E1 a1 338 t.2) (fun K t I hK => ?_) n _ ⟨by show 0 ≤ ((0 : Int32)).toInt; omega, by show ((0 : Int32)).toInt ≤ 4; omega, by show (wt_gf s 108 42).toInt = 678 + 110 * ((0 : Int32)).toInt; rw [k0]; omega, he⟩
    obtain ⟨i0, i1, i2, i3⟩ := I
    have et := wt_tnI i0
    unfold wp_md_movesAll_B86
    refine wt_H_if (fun c => ?_) (fun c => ?_)
    · have c' := wt_cle c
      exact W t.2 (by omega) i3
    · have c' := wt_ncle c
      have ei := wt_i1 (c := t.1) (by omega)
      refine wt_H_gd (fun _ => ?_)
      refine wt_H_bh (wh_moves n (p := 678 + 110 * Int32.toNatClampNeg t.1) (by omega) (by omega)) (fun q hq => ?_)
      obtain ⟨fq, q1, q2, q3⟩ := hq
      refine wt_H_gd (fun _ => ?_)
      refine wt_H_gd (fun _ => ?_)
      obtain ⟨s1, ε1⟩ : ∃ o : wt_St, o = wt_sa q.2 275 (Int32.toNatClampNeg t.1) q.1 := ⟨_, rfl⟩
      rw [← ε1]
      have f1 := wt_fr_sa ε1
      have a1s : ∀ j, wt_ga s1 a1 j = wt_ga q.2 a1 j := f1.2 a1 (by (try dsimp only); omega)
      have e1 : wu_E1 a1 338 s1 := wu_E1_fr (p := 678) i3 (wt_fr.sa (A := fun i => i = a1 ∨ i = 275) (wt_frw fq (fun i k h => h) (fun i h => Or.inl h)) ε1 (Or.inr rfl)) ⟨by decide, by decide⟩ ⟨by (try dsimp only); omega, by (try dsimp only); omega⟩ (fun j hj => by rw [a1s]; exact q3 j (by omega)) (by omega)
      refine wt_H_bh (wh_moves n (p := 679 + 110 * Int32.toNatClampNeg t.1) (by rw [f1.1 108 42 (fun h => h)]; omega) (by omega)) (fun q' hq' => ?_)
      obtain ⟨fq', q1', q2', q3'⟩ := hq'
      refine wt_H_gd (fun _ => ?_)
      obtain ⟨s2, ε2⟩ : ∃ o : wt_St, o = wt_sa q'.2 276 (Int32.toNatClampNeg t.1) q'.1 := ⟨_, rfl⟩
      rw [← ε2]
      have f2 := wt_fr_sa ε2
      have a2s : ∀ j, wt_ga s2 a1 j = wt_ga q'.2 a1 j := f2.2 a1 (by (try dsimp only); omega)
      have e2 : wu_E1 a1 338 s2 := wu_E1_fr (p := 678) e1 (wt_fr.sa (A := fun i => i = a1 ∨ i = 276) (wt_frw fq' (fun i k h => h) (fun i h => Or.inl h)) ε2 (Or.inr rfl)) ⟨by decide, by decide⟩ ⟨by (try dsimp only); omega, by (try dsimp only); omega⟩ (fun j hj => by rw [a2s]; exact q3' j (by omega)) (by omega)
      refine wt_H_it (fun u : Int32 × wt_St => 0 ≤ u.1.toInt ∧ u.1.toInt ≤ 108 ∧ (wt_gf u.2 108 42).toInt = 680 + 110 * t.1.toInt + u.1.toInt ∧ wu_E1 a1 338 u.2) (fun K2 u J hK2 => ?_) n _ ⟨by show 0 ≤ ((0 : Int32)).toInt; omega, by show ((0 : Int32)).toInt ≤ 108; omega, by show (wt_gf s2 108 42).toInt = 680 + 110 * t.1.toInt + ((0 : Int32)).toInt; rw [f2.1 108 42 (fun h => h)]; omega, e2⟩
      obtain ⟨j0, j1, j2, j3⟩ := J
      have eu := wt_tnI j0
      unfold wp_md_movesAll_B130
      refine wt_H_if (fun d => ?_) (fun d => ?_)
      · have d' := wt_cle d
        exact hK _ ⟨by show 0 ≤ (t.1 + (1 : Int32)).toInt; omega, by show (t.1 + (1 : Int32)).toInt ≤ 4; omega, by show (wt_gf u.2 108 42).toInt = 678 + 110 * (t.1 + (1 : Int32)).toInt; omega, j3⟩
      · have d' := wt_ncle d
        have ej := wt_i1 (c := u.1) (by omega)
        refine wt_H_gd (fun _ => ?_)
        refine wt_H_gd (fun _ => ?_)
        refine wt_H_gd (fun _ => ?_)
        refine wt_H_bh (wh_moves n (p := 680 + 110 * Int32.toNatClampNeg t.1 + Int32.toNatClampNeg u.1) (by omega) (by omega)) (fun q hq => ?_)
        obtain ⟨fq, q1, q2, q3⟩ := hq
        refine wt_H_gd (fun _ => ?_)
        obtain ⟨s3, ε3⟩ : ∃ o : wt_St, o = wt_sa q.2 (278 + Int32.toNatClampNeg t.1) (Int32.toNatClampNeg u.1) q.1 := ⟨_, rfl⟩
        rw [← ε3]
        have f3 := wt_fr_sa ε3
        have a3s : ∀ j, wt_ga s3 a1 j = wt_ga q.2 a1 j := f3.2 a1 (by (try dsimp only); omega)
        refine hK2 _ ⟨by show 0 ≤ (u.1 + (1 : Int32)).toInt; omega, by show (u.1 + (1 : Int32)).toInt ≤ 108; omega, ?_, wu_E1_fr (p := 678) j3 (wt_fr.sa (A := fun i => i = a1 ∨ i = 278 + Int32.toNatClampNeg t.1) (wt_frw fq (fun i k h => h) (fun i h => Or.inl h)) ε3 (Or.inr rfl)) ⟨by decide, by decide⟩ ⟨by (try dsimp only); omega, by (try dsimp only); omega⟩ (fun j hj => by rw [a3s]; exact q3 j (by omega)) (by omega)⟩
        show (wt_gf s3 108 42).toInt = 680 + 110 * t.1.toInt + (u.1 + (1 : Int32)).toInt
        rw [f3.1 108 42 (fun h => h)]; omega
  unfold wp_md_movesAll
  obtain ⟨s0, ε0⟩ : ∃ o : wt_St, o = wt_sf σ 108 42 (0 : Int32) := ⟨_, rfl⟩
  rw [← ε0]
  refine wt_H_bh (wh_moves n (p := 0) (by rw [wt_v_sf ε0]; exact k0) (by omega)) (fun q hq => ?_)
  obtain ⟨fq, q1, q2, q3⟩ := hq
  obtain ⟨s1, ε1⟩ : ∃ o : wt_St, o = wt_sf q.2 108 26 q.1 := ⟨_, rfl⟩
  rw [← ε1]
  have f1 := wt_fr_sf ε1
  refine wt_H_bh (wh_moves n (p := 1) (by rw [f1.1 108 42 (by decide)]; exact q1) (by omega)) (fun q' hq' => ?_)
  obtain ⟨fq', q1', q2', q3'⟩ := hq'
  obtain ⟨s2, ε2⟩ : ∃ o : wt_St, o = wt_sf q'.2 108 40 q'.1 := ⟨_, rfl⟩
  rw [← ε2]
  have f2 := wt_fr_sf ε2
  have e2 : wu_E1 a1 0 s2 := by
    refine ⟨?_, ?_, fun k hk => absurd hk (by omega)⟩
    · rw [f2.1 108 26 (by decide), fq'.1 108 26 (by decide), wt_v_sf ε1, f2.2 a1 (fun h => h), q3' 0 (by omega), f1.2 a1 (fun h => h)]; exact q2
    · rw [wt_v_sf ε2, f2.2 a1 (fun h => h)]; exact q2'
  refine wt_H_it (fun t : Int32 × wt_St => 0 ≤ t.1.toInt ∧ t.1.toInt ≤ 338 ∧ (wt_gf t.2 108 42).toInt = 2 + 2 * t.1.toInt ∧ wu_E1 a1 (Int32.toNatClampNeg t.1) t.2) (fun K t I hK => ?_) n _ ⟨by show 0 ≤ ((0 : Int32)).toInt; omega, by show ((0 : Int32)).toInt ≤ 338; omega, by show (wt_gf s2 108 42).toInt = 2 + 2 * ((0 : Int32)).toInt; rw [f2.1 108 42 (by decide)]; omega, by show wu_E1 a1 (Int32.toNatClampNeg (0 : Int32)) s2; rw [wt_tn0]; exact e2⟩
  obtain ⟨i0, i1, i2, i3⟩ := I
  have et := wt_tnI i0
  unfold wp_md_movesAll_B35
  refine wt_H_if (fun c => ?_) (fun c => ?_)
  · have c' := wt_cle c
    have e338 : Int32.toNatClampNeg t.1 = 338 := by omega
    rw [e338] at i3
    exact PGS t.2 (by omega) i3
  · have c' := wt_ncle c
    have ei := wt_i1 (c := t.1) (by omega)
    refine wt_H_gd (fun _ => ?_)
    refine wt_H_bh (wh_moves n (p := 2 + 2 * Int32.toNatClampNeg t.1) (by omega) (by omega)) (fun q hq => ?_)
    obtain ⟨fq, q1, q2, q3⟩ := hq
    refine wt_H_gd (fun _ => ?_)
    refine wt_H_gd (fun _ => ?_)
    obtain ⟨s3, ε3⟩ : ∃ o : wt_St, o = wt_sa q.2 121 (Int32.toNatClampNeg t.1) q.1 := ⟨_, rfl⟩
    rw [← ε3]
    have f3 := wt_fr_sa ε3
    refine wt_H_bh (wh_moves n (p := 3 + 2 * Int32.toNatClampNeg t.1) (by rw [f3.1 108 42 (fun h => h)]; omega) (by omega)) (fun q' hq' => ?_)
    obtain ⟨fq', q1', q2', q3'⟩ := hq'
    refine wt_H_gd (fun _ => ?_)
    obtain ⟨s4, ε4⟩ : ∃ o : wt_St, o = wt_sa q'.2 124 (Int32.toNatClampNeg t.1) q'.1 := ⟨_, rfl⟩
    rw [← ε4]
    have f4 := wt_fr_sa ε4
    have r0 : ∀ j, j < 2 + 2 * Int32.toNatClampNeg t.1 → wt_ga s4 a1 j = wt_ga t.2 a1 j := fun j hj => by
      rw [f4.2 a1 (by (try dsimp only); omega), q3' j (by omega), f3.2 a1 (by (try dsimp only); omega)]
      exact q3 j (by omega)
    have en : Int32.toNatClampNeg (t.1 + (1 : Int32)) = Int32.toNatClampNeg t.1 + 1 := by have := wt_tnI (x := t.1 + (1 : Int32)) (by omega); omega
    refine hK _ ⟨by show 0 ≤ (t.1 + (1 : Int32)).toInt; omega, by show (t.1 + (1 : Int32)).toInt ≤ 338; omega, ?_, ?_⟩
    · show (wt_gf s4 108 42).toInt = 2 + 2 * (t.1 + (1 : Int32)).toInt
      rw [f4.1 108 42 (fun h => h)]; omega
    · show wu_E1 a1 (Int32.toNatClampNeg (t.1 + (1 : Int32))) s4
      rw [en]
      refine ⟨?_, ?_, fun k hk => ?_⟩
      · rw [f4.1 108 26 (fun h => h), fq'.1 108 26 (by decide), f3.1 108 26 (fun h => h), fq.1 108 26 (by decide), r0 0 (by omega)]; exact i3.1
      · rw [f4.1 108 40 (fun h => h), fq'.1 108 40 (by decide), f3.1 108 40 (fun h => h), fq.1 108 40 (by decide), r0 1 (by omega)]; exact i3.2.1
      · by_cases hc : k = Int32.toNatClampNeg t.1
        · rw [hc]
          refine ⟨?_, ?_⟩
          · rw [f4.2 121 (by decide), fq'.2 121 (by (try dsimp only); omega), wt_v_sa ε3, f4.2 a1 (by (try dsimp only); omega), q3' _ (by omega), f3.2 a1 (by (try dsimp only); omega)]
            exact q2
          · rw [wt_v_sa ε4, f4.2 a1 (by (try dsimp only); omega)]
            exact q2'
        · rw [f4.2 121 (by decide), fq'.2 121 (by (try dsimp only); omega), wt_w_sa ε3 k hc, fq.2 121 (by (try dsimp only); omega), wt_w_sa ε4 k hc, fq'.2 124 (by (try dsimp only); omega), f3.2 124 (by decide), fq.2 124 (by (try dsimp only); omega), r0 _ (by omega), r0 _ (by omega)]
          exact i3.2.2 k (by omega)
