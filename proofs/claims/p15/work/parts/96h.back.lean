/-! what the reference tries and takes back: its pieces lie and are as before -/
theorem wh_nextPieceR (n : Nat) {x1 x2 : Int32} {z : wt_St} : wt_H (wp_md_nextPiece n x1 x2 z) (fun q => q.2 = z ∧ (q.1 = (-1 : Int32) ∨ wt_ga z 124 (Int32.toNatClampNeg q.1) = (-1 : Int32))) := by
  unfold wp_md_nextPiece
  refine wt_H_it (fun t : Int32 × Int32 × wt_St => t.2.2 = z ∧ (t.1 = (-1 : Int32) ∨ wt_ga z 124 (Int32.toNatClampNeg t.1) = (-1 : Int32))) (fun K t I hK => ?_) n _ ⟨rfl, Or.inl rfl⟩
  obtain ⟨i0, i1⟩ := I
  unfold wp_md_nextPiece_B5
  rw [i0]
  refine wt_H_gd (fun _ => ?_)
  refine wt_H_if (fun _ => wt_H_some ⟨rfl, i1⟩) (fun _ => ?_)
  have CE : wt_H (wp_md_cell n x1 t.2.1 z) (fun q => q.2 = z) := by
    unfold wp_md_cell
    exact wt_H_some rfl
  refine wt_H_bh CE (fun q3 h3 => ?_)
  rw [h3]
  unfold wp_md_nextPiece_B96 wp_md_nextPiece_B99
  refine wt_H_gd (fun _ => wt_H_if (fun c => ?_) (fun _ => hK _ ⟨rfl, i1⟩))
  have O : wt_H (K (q3.1, (t.2.1 + (1 : Int32)), z)) (fun q => q.2 = z ∧ (q.1 = (-1 : Int32) ∨ wt_ga z 124 (Int32.toNatClampNeg q.1) = (-1 : Int32))) := hK _ ⟨rfl, Or.inr c⟩
  have S : wt_H (K (t.1, (t.2.1 + (1 : Int32)), z)) (fun q => q.2 = z ∧ (q.1 = (-1 : Int32) ∨ wt_ga z 124 (Int32.toNatClampNeg q.1) = (-1 : Int32))) := hK _ ⟨rfl, i1⟩
  refine wt_H_gd (fun _ => wt_H_if (fun _ => wt_H_if (fun _ => O) (fun _ => ?_)) (fun _ => S))
  exact wt_H_if (fun _ => wt_H_gd (fun _ => wt_H_gd (fun _ => wt_H_if (fun _ => S) (fun _ => O)))) (fun _ => wt_H_gd (fun _ => wt_H_gd (fun _ => wt_H_if (fun _ => S) (fun _ => O))))
/-- taken so far: which cells lie elsewhere now -/
def wu_tkR (x : Int32) (z y : wt_St) : Prop := (∀ c, wt_ga y 124 c = wt_ga z 124 c ∨ (wt_ga z 124 c = (-1 : Int32) ∧ wt_ga y 124 c = x ∧ ∃ k : Nat, (k : Int) < (wt_gf y 108 54).toInt ∧ Int32.toNatClampNeg (wt_ga y 288 k) = c)) ∧ (∀ k : Nat, (k : Int) < (wt_gf y 108 54).toInt → wt_ga z 124 (Int32.toNatClampNeg (wt_ga y 288 k)) = (-1 : Int32)) ∧ 0 ≤ (wt_gf y 108 54).toInt
set_option maxHeartbeats 4000000 in
theorem wh_takesR (n : Nat) (hn : 4294967297 < n) {x1 x2 : Int32} {z : wt_St} (r : wt_RI z) : wt_H (wp_md_takes n x1 x2 z) (fun q => (q.1 = 0 ∧ q.2 = z) ∨ (q.1 = 1 ∧ wu_tkR x2 z q.2)) := by
  have k0 : (0 : Int32).toInt = 0 := by decide
  unfold wp_md_takes
  refine wt_H_bh (wh_lackingM n hn r) (fun q1 h1 => ?_)
  rw [h1.1]
  refine wt_H_if (fun _ => ?_) (fun _ => wt_H_some (Or.inl ⟨rfl, rfl⟩))
  obtain ⟨z1, ε⟩ : ∃ o : wt_St, o = wt_sf z 108 54 (0 : Int32) := ⟨_, rfl⟩
  rw [← ε]
  have f := wt_fr_sf ε
  have v54 : wt_gf z1 108 54 = 0 := wt_v_sf ε
  have I0 : wu_tkR x2 z z1 := ⟨fun c => Or.inl (f.2 124 (fun h => h) c), fun k hk => by rw [v54, k0] at hk; omega, by rw [v54, k0]; exact Int.le_refl _⟩
  refine wt_H_it (fun t : Int32 × wt_St => wu_tkR x2 z t.2) (fun K t I hK => ?_) n _ I0
  unfold wp_md_takes_B18
  refine wt_H_if (fun _ => wt_H_some (Or.inr ⟨rfl, I⟩)) (fun _ => ?_)
  refine wt_H_it (fun u : Int32 × wt_St => wu_tkR x2 z u.2) (fun K2 u J hK2 => ?_) n _ I
  unfold wp_md_takes_B27
  refine wt_H_gd (fun _ => wt_H_if (fun _ => hK _ J) (fun _ => ?_))
  refine wt_H_bh (wh_nextPieceR n) (fun q6 h6 => ?_)
  obtain ⟨e6, h6⟩ := h6
  rw [e6]
  refine wt_H_gd (fun gd => ?_)
  have g6 := wt_ixn gd
  rcases h6 with h6 | h6
  · rw [h6, wt_lm1] at g6
    omega
  obtain ⟨s1, ε1⟩ : ∃ o : wt_St, o = wt_sa u.2 124 (Int32.toNatClampNeg q6.1) x2 := ⟨_, rfl⟩
  rw [← ε1]
  have f1 := wt_fr_sa ε1
  have c54 : wt_gf s1 108 54 = wt_gf u.2 108 54 := f1.1 108 54 (fun h => h)
  rw [c54]
  refine wt_H_gd (fun gd2 => ?_)
  have g7 := wt_ixn gd2
  have e54 := wt_tnI g7.1
  obtain ⟨s2, ε2⟩ : ∃ o : wt_St, o = wt_sa s1 288 (Int32.toNatClampNeg (wt_gf u.2 108 54)) q6.1 := ⟨_, rfl⟩
  rw [← ε2]
  have f2 := wt_fr_sa ε2
  rw [f2.1 108 54 (fun h => h), c54]
  obtain ⟨s3, ε3⟩ : ∃ o : wt_St, o = wt_sf s2 108 54 ((wt_gf u.2 108 54) + (1 : Int32)) := ⟨_, rfl⟩
  rw [← ε3]
  have f3 := wt_fr_sf ε3
  have n54 : wt_gf s3 108 54 = (wt_gf u.2 108 54) + (1 : Int32) := wt_v_sf ε3
  have ei := wt_i1 (c := wt_gf u.2 108 54) (by omega)
  obtain ⟨J1, J2, J3⟩ := J
  have a124 : ∀ c, wt_ga s3 124 c = wt_ga s1 124 c := fun c => (f3.2 124 (fun h => h) c).trans (f2.2 124 (by decide) c)
  have a288 : ∀ k : Nat, k ≠ Int32.toNatClampNeg (wt_gf u.2 108 54) → wt_ga s3 288 k = wt_ga u.2 288 k := fun k hk => (f3.2 288 (fun h => h) k).trans ((wt_w_sa ε2 k hk).trans (f1.2 288 (by decide) k))
  have b288 : wt_ga s3 288 (Int32.toNatClampNeg (wt_gf u.2 108 54)) = q6.1 := (f3.2 288 (fun h => h) _).trans (wt_v_sa ε2)
  have z6 : wt_ga z 124 (Int32.toNatClampNeg q6.1) = (-1 : Int32) := by
    rcases J1 (Int32.toNatClampNeg q6.1) with h | ⟨h, -⟩
    · rw [← h]; exact h6
    · exact h
  refine hK2 _ ⟨fun c => ?_, fun k hk => ?_, ?_⟩
  · show wt_ga s3 124 c = wt_ga z 124 c ∨ (wt_ga z 124 c = (-1 : Int32) ∧ wt_ga s3 124 c = x2 ∧ ∃ k : Nat, (k : Int) < (wt_gf s3 108 54).toInt ∧ Int32.toNatClampNeg (wt_ga s3 288 k) = c)
    by_cases h : c = Int32.toNatClampNeg q6.1
    · refine Or.inr ⟨by rw [h]; exact z6, by rw [a124, h]; exact wt_v_sa ε1, Int32.toNatClampNeg (wt_gf u.2 108 54), by rw [n54]; omega, by rw [b288, h]⟩
    · rw [a124, wt_w_sa ε1 c h]
      rcases J1 c with j | ⟨j1, j2, k, j3, j4⟩
      · exact Or.inl j
      · exact Or.inr ⟨j1, j2, k, by rw [n54]; omega, by rw [a288 k (by omega)]; exact j4⟩
  · have hk' : (k : Int) < (wt_gf s3 108 54).toInt := hk
    rw [n54] at hk'
    show wt_ga z 124 (Int32.toNatClampNeg (wt_ga s3 288 k)) = (-1 : Int32)
    by_cases h : k = Int32.toNatClampNeg (wt_gf u.2 108 54)
    · rw [h, b288]; exact z6
    · rw [a288 k h]; exact J2 k (by omega)
  · show 0 ≤ (wt_gf s3 108 54).toInt
    rw [n54]
    omega
set_option maxHeartbeats 4000000 in
theorem wh_isPrintedR (n : Nat) (hn : 4294967297 < n) {x1 : Int32} {z : wt_St} (r : wt_RI z) (p0 : 0 ≤ x1.toInt) (p1 : x1.toInt < (wt_gf z 108 40).toInt) : wt_H (wp_md_isPrinted n x1 z) (fun q => ∀ c, wt_ga q.2 124 c = wt_ga z 124 c) := by
  have k0 : (0 : Int32).toInt = 0 := by decide
  have hz : 0 ≤ (wt_gf z 108 40).toInt ∧ (wt_gf z 108 40).toInt ≤ 10 := wt_Rf8 r
  have ex := wt_tnI p0
  unfold wp_md_isPrinted
  have e0 : Int32.toNatClampNeg (0 : Int32) = 0 := by decide
  have e1 : Int32.toNatClampNeg (1 : Int32) = 1 := by decide
  rw [e0, e1]
  have gw := (wt_R_w r (264 + Int32.toNatClampNeg x1) (by omega) (by omega)).1
  refine wt_H_gd (fun _ => wt_H_gd (fun _ => ?_))
  refine wt_H_bh (wq_md_needsText n hn _ z r gw.1 gw.2).h (fun q3 h3 => ?_)
  obtain ⟨f3, r3, -, -⟩ := h3
  refine wt_H_gd (fun _ => wt_H_gd (fun _ => ?_))
  refine wt_H_bh (wh_takesR n hn r3) (fun q6 h6 => ?_)
  have a3 : ∀ c, wt_ga q3 124 c = wt_ga z 124 c := f3.2 124 (by decide)
  rcases h6 with ⟨b1, b2⟩ | ⟨b1, T1, T2, T3⟩
  · rw [if_pos (show q6.1 = 0 from b1)]
    refine wt_H_some (fun c => ?_)
    show wt_ga q6.2 124 c = wt_ga z 124 c
    rw [b2]
    exact a3 c
  · rw [if_neg (show ¬ q6.1 = 0 by rw [b1]; decide)]
    refine wt_H_it (fun t : Int32 × wt_St => 0 ≤ t.1.toInt ∧ wt_gf t.2 108 54 = wt_gf q6.2 108 54 ∧ (∀ k, wt_ga t.2 288 k = wt_ga q6.2 288 k) ∧ ∀ c, wt_ga t.2 124 c = wt_ga z 124 c ∨ (wt_ga z 124 c = (-1 : Int32) ∧ ∃ k : Nat, t.1.toInt ≤ (k : Int) ∧ (k : Int) < (wt_gf q6.2 108 54).toInt ∧ Int32.toNatClampNeg (wt_ga q6.2 288 k) = c)) (fun K t I hK => ?_) n _ ⟨by show 0 ≤ ((0 : Int32)).toInt; omega, rfl, fun _ => rfl, fun c => ?_⟩
    · obtain ⟨i1, i2, i3, i4⟩ := I
      have et := wt_tnI i1
      unfold wp_md_isPrinted_B32
      rw [i2]
      refine wt_H_if (fun c => ?_) (fun c => ?_)
      · have c' := wt_cle c
        refine wt_H_some (fun c => ?_)
        rcases i4 c with h | ⟨-, k, k1, k2, -⟩
        · exact h
        · omega
      · have c' := wt_ncle c
        have ei := wt_i1 (c := t.1) (by have := wt_bd (wt_gf q6.2 108 54); omega)
        refine wt_H_gd (fun _ => wt_H_gd (fun _ => wt_H_gd (fun _ => wt_H_gd (fun _ => wt_H_gd (fun _ => wt_H_gd (fun _ => ?_))))))
        rw [e1, i3]
        obtain ⟨w, hw⟩ : ∃ w : Int32, w = (wt_ga t.2 121 (Int32.toNatClampNeg (wt_ga q6.2 288 (Int32.toNatClampNeg t.1)))) - (wt_ga t.2 (264 + Int32.toNatClampNeg x1) 1) := ⟨_, rfl⟩
        rw [← hw]
        obtain ⟨s1, ε1⟩ : ∃ o : wt_St, o = wt_sa t.2 121 (Int32.toNatClampNeg (wt_ga q6.2 288 (Int32.toNatClampNeg t.1))) w := ⟨_, rfl⟩
        rw [← ε1]
        have f1 := wt_fr_sa ε1
        rw [f1.2 288 (by decide), i3]
        refine wt_H_gd (fun _ => ?_)
        obtain ⟨s2, ε2⟩ : ∃ o : wt_St, o = wt_sa s1 124 (Int32.toNatClampNeg (wt_ga q6.2 288 (Int32.toNatClampNeg t.1))) (-1 : Int32) := ⟨_, rfl⟩
        rw [← ε2]
        have f2 := wt_fr_sa ε2
        refine hK _ ⟨by show 0 ≤ (t.1 + (1 : Int32)).toInt; omega, (f2.1 108 54 (fun h => h)).trans ((f1.1 108 54 (fun h => h)).trans i2), fun k => (f2.2 288 (by decide) k).trans ((f1.2 288 (by decide) k).trans (i3 k)), fun c => ?_⟩
        show wt_ga s2 124 c = wt_ga z 124 c ∨ (wt_ga z 124 c = (-1 : Int32) ∧ ∃ k : Nat, (t.1 + (1 : Int32)).toInt ≤ (k : Int) ∧ (k : Int) < (wt_gf q6.2 108 54).toInt ∧ Int32.toNatClampNeg (wt_ga q6.2 288 k) = c)
        by_cases h : c = Int32.toNatClampNeg (wt_ga q6.2 288 (Int32.toNatClampNeg t.1))
        · refine Or.inl ?_
          rw [h, wt_v_sa ε2, ← a3]
          exact (T2 (Int32.toNatClampNeg t.1) (by omega)).symm
        · rw [wt_w_sa ε2 c h, f1.2 124 (by decide)]
          rcases i4 c with j | ⟨j1, k, k1, k2, k3⟩
          · exact Or.inl j
          · refine Or.inr ⟨j1, k, ?_, k2, k3⟩
            have : k ≠ Int32.toNatClampNeg t.1 := fun e => h (by rw [← k3, e])
            omega
    · show wt_ga q6.2 124 c = wt_ga z 124 c ∨ (wt_ga z 124 c = (-1 : Int32) ∧ ∃ k : Nat, ((0 : Int32)).toInt ≤ (k : Int) ∧ (k : Int) < (wt_gf q6.2 108 54).toInt ∧ Int32.toNatClampNeg (wt_ga q6.2 288 k) = c)
      rcases T1 c with h | ⟨h1, -, k, h3, h4⟩
      · exact Or.inl (h.trans (a3 c))
      · exact Or.inr ⟨by rw [← a3]; exact h1, k, by omega, h3, h4⟩
theorem wh_printsR (n : Nat) (hn : 4294967297 < n) {x1 x2 x3 : Int32} {z : wt_St} (r : wt_RI z) : wt_H (wp_md_prints n x1 x2 x3 z) (fun q => wt_RI q.2 ∧ wt_fr (fun i k => i = 108 ∧ k = 54) (fun i => i = 287 ∨ i = 124 ∨ i = 288 ∨ i = 121) z q.2 ∧ ∀ c, wt_ga q.2 124 c = wt_ga z 124 c) := by
  have k0 : (0 : Int32).toInt = 0 := by decide
  unfold wp_md_prints
  refine wt_H_it (fun t : Int32 × Int32 × wt_St => wt_RI t.2.2 ∧ wt_fr (fun i k => i = 108 ∧ k = 54) (fun i => i = 287 ∨ i = 124 ∨ i = 288 ∨ i = 121) z t.2.2 ∧ ∀ c, wt_ga t.2.2 124 c = wt_ga z 124 c) (fun K t I hK => ?_) n _ ⟨r, wt_fr.rf, fun _ => rfl⟩
  unfold wp_md_prints_B6
  refine wt_H_if (fun _ => wt_H_some I) (fun _ => ?_)
  refine wt_H_it (fun u : Int32 × Int32 × wt_St => 0 ≤ u.2.1.toInt ∧ wt_RI u.2.2 ∧ wt_fr (fun i k => i = 108 ∧ k = 54) (fun i => i = 287 ∨ i = 124 ∨ i = 288 ∨ i = 121) z u.2.2 ∧ ∀ c, wt_ga u.2.2 124 c = wt_ga z 124 c) (fun K2 u J hK2 => ?_) n _ ⟨by show 0 ≤ ((0 : Int32)).toInt; omega, I⟩
  obtain ⟨j0, jr, jf, ja⟩ := J
  unfold wp_md_prints_B15
  refine wt_H_if (fun _ => hK _ ⟨jr, jf, ja⟩) (fun c => ?_)
  have c' := wt_ncle c
  have hz : 0 ≤ (wt_gf u.2.2 108 40).toInt ∧ (wt_gf u.2.2 108 40).toInt ≤ 10 := wt_Rf8 jr
  have ei := wt_i1 (c := u.2.1) (by omega)
  unfold wp_md_prints_B77
  have N : ∀ (w : Int32) (s : wt_St), wt_RI s → wt_fr (fun i k => i = 108 ∧ k = 54) (fun i => i = 287 ∨ i = 124 ∨ i = 288 ∨ i = 121) z s → (∀ c, wt_ga s 124 c = wt_ga z 124 c) → wt_H (K2 (w, (u.2.1 + (1 : Int32)), s)) (fun q => wt_RI q.2 ∧ wt_fr (fun i k => i = 108 ∧ k = 54) (fun i => i = 287 ∨ i = 124 ∨ i = 288 ∨ i = 121) z q.2 ∧ ∀ c, wt_ga q.2 124 c = wt_ga z 124 c) := fun w s h1 h2 h3 => hK2 _ ⟨by show 0 ≤ (u.2.1 + (1 : Int32)).toInt; omega, h1, h2, h3⟩
  refine wt_H_gd (fun _ => wt_H_gd (fun _ => wt_H_if (fun _ => wt_H_if (fun _ => N _ _ jr jf ja) (fun _ => ?_)) (fun _ => N _ _ jr jf ja)))
  refine wt_H_bh (wt_H_and (wh_isPrintedR n hn jr j0 (by omega)) (wq_md_isPrinted n hn u.2.1 u.2.2 jr j0 (by omega)).h) (fun q7 h7 => ?_)
  obtain ⟨h7, f7, r7⟩ := h7
  have F := wt_fr.tr jf f7 (fun i k h => h) (fun i h => h)
  have A : ∀ c, wt_ga q7.2 124 c = wt_ga z 124 c := fun c => (h7 c).trans (ja c)
  refine wt_H_if (fun _ => wt_H_if (fun _ => wt_H_some ⟨r7, F, A⟩) (fun _ => N _ _ r7 F A)) (fun _ => N _ _ r7 F A)
theorem wh_putsR (n : Nat) {z : wt_St} : wt_H (wp_md_puts n z) (fun q => wt_fr (fun _ _ => False) (fun i => i = 286) z q ∧ ∀ c, c < 338 → wt_ga q 286 c = wt_ga z 121 c) := by
  have k0 : (0 : Int32).toInt = 0 := by decide
  have k338 : (338 : Int32).toInt = 338 := by decide
  unfold wp_md_puts
  refine wt_H_it (fun t : Int32 × wt_St => 0 ≤ t.1.toInt ∧ wt_fr (fun _ _ => False) (fun i => i = 286) z t.2 ∧ ∀ c : Nat, (c : Int) < t.1.toInt → wt_ga t.2 286 c = wt_ga z 121 c) (fun K t I hK => ?_) n _ ⟨by show 0 ≤ ((0 : Int32)).toInt; omega, wt_fr.rf, fun k hk => absurd (show (k : Int) < ((0 : Int32)).toInt from hk) (by omega)⟩
  obtain ⟨i1, f, i2⟩ := I
  have et := wt_tnI i1
  unfold wp_md_puts_B2
  refine wt_H_if (fun c => ?_) (fun c => ?_)
  · have c' := wt_cle c
    exact wt_H_some ⟨f, fun k hk => i2 k (by omega)⟩
  · have c' := wt_ncle c
    have ei := wt_i1 (c := t.1) (by omega)
    refine wt_H_gd (fun _ => wt_H_gd (fun _ => ?_))
    obtain ⟨s1, ε⟩ : ∃ o : wt_St, o = wt_sa t.2 286 (Int32.toNatClampNeg t.1) (wt_ga t.2 121 (Int32.toNatClampNeg t.1)) := ⟨_, rfl⟩
    rw [← ε]
    refine hK _ ⟨by show 0 ≤ (t.1 + (1 : Int32)).toInt; omega, f.sa ε rfl, fun k hk => ?_⟩
    have hk' : (k : Int) < (t.1 + (1 : Int32)).toInt := hk
    show wt_ga s1 286 k = _
    by_cases h : k = Int32.toNatClampNeg t.1
    · rw [h, wt_v_sa ε]; exact f.2 121 (by decide) _
    · rw [wt_w_sa ε k h]; exact i2 k (by omega)
theorem wh_putsBackR (n : Nat) {z : wt_St} : wt_H (wp_md_putsBack n z) (fun q => wt_fr (fun _ _ => False) (fun i => i = 121) z q ∧ ∀ c, c < 338 → wt_ga q 121 c = wt_ga z 286 c) := by
  have k0 : (0 : Int32).toInt = 0 := by decide
  have k338 : (338 : Int32).toInt = 338 := by decide
  unfold wp_md_putsBack
  refine wt_H_it (fun t : Int32 × wt_St => 0 ≤ t.1.toInt ∧ wt_fr (fun _ _ => False) (fun i => i = 121) z t.2 ∧ ∀ c : Nat, (c : Int) < t.1.toInt → wt_ga t.2 121 c = wt_ga z 286 c) (fun K t I hK => ?_) n _ ⟨by show 0 ≤ ((0 : Int32)).toInt; omega, wt_fr.rf, fun k hk => absurd (show (k : Int) < ((0 : Int32)).toInt from hk) (by omega)⟩
  obtain ⟨i1, f, i2⟩ := I
  have et := wt_tnI i1
  unfold wp_md_putsBack_B2
  refine wt_H_if (fun c => ?_) (fun c => ?_)
  · have c' := wt_cle c
    exact wt_H_some ⟨f, fun k hk => i2 k (by omega)⟩
  · have c' := wt_ncle c
    have ei := wt_i1 (c := t.1) (by omega)
    refine wt_H_gd (fun _ => wt_H_gd (fun _ => ?_))
    obtain ⟨s1, ε⟩ : ∃ o : wt_St, o = wt_sa t.2 121 (Int32.toNatClampNeg t.1) (wt_ga t.2 286 (Int32.toNatClampNeg t.1)) := ⟨_, rfl⟩
    rw [← ε]
    refine hK _ ⟨by show 0 ≤ (t.1 + (1 : Int32)).toInt; omega, f.sa ε rfl, fun k hk => ?_⟩
    have hk' : (k : Int) < (t.1 + (1 : Int32)).toInt := hk
    show wt_ga s1 121 k = _
    by_cases h : k = Int32.toNatClampNeg t.1
    · rw [h, wt_v_sa ε]; exact f.2 286 (by decide) _
    · rw [wt_w_sa ε k h]; exact i2 k (by omega)
/-- all is where it was -/
def wu_KE (z y : wt_St) : Prop := wt_RI y ∧ (∀ c, wt_ga y 124 c = wt_ga z 124 c) ∧ ∀ c, c < 338 → wt_ga y 121 c = wt_ga z 121 c
/-- put aside, and what was printed since -/
def wu_KA (z y : wt_St) : Prop := wt_RI y ∧ (∀ c, wt_ga y 124 c = wt_ga z 124 c) ∧ ∀ c, c < 338 → wt_ga y 286 c = wt_ga z 121 c
theorem wh_puts_KA (n : Nat) (hn : 4294967297 < n) {z s : wt_St} (h : wu_KE z s) : wt_H (wp_md_puts n s) (fun q => wu_KA z q) := by
  refine (wt_H_and (wh_putsR n) (wq_md_puts n hn s h.1).h).imp (fun q hq => ⟨hq.2.2, fun c => (hq.1.1.2 124 (by decide) c).trans (h.2.1 c), fun c hc => (hq.1.2 c hc).trans (h.2.2 c hc)⟩)
theorem wh_prints_KA (n : Nat) (hn : 4294967297 < n) {x1 x2 x3 : Int32} {z s : wt_St} (h : wu_KA z s) : wt_H (wp_md_prints n x1 x2 x3 s) (fun q => wu_KA z q.2) := by
  refine (wh_printsR n hn h.1).imp (fun q hq => ⟨hq.1, fun c => (hq.2.2 c).trans (h.2.1 c), fun c hc => (hq.2.1.2 286 (by decide) c).trans (h.2.2 c hc)⟩)
theorem wh_putsBack_KE (n : Nat) (hn : 4294967297 < n) {z s : wt_St} (h : wu_KA z s) : wt_H (wp_md_putsBack n s) (fun q => wu_KE z q) := by
  refine (wt_H_and (wh_putsBackR n) (wq_md_putsBack n hn s h.1).h).imp (fun q hq => ⟨hq.2.2, fun c => (hq.1.1.2 124 (by decide) c).trans (h.2.1 c), fun c hc => (hq.1.2 c hc).trans (h.2.2 c hc)⟩)
theorem wh_greedyAhead_KA (n : Nat) (hn : 4294967297 < n) {x1 : Int32} {z s : wt_St} (h : wu_KE z s) : wt_H (wp_md_greedyAhead n x1 s) (fun q => wu_KA z q.2) := by
  unfold wp_md_greedyAhead
  refine wt_H_bh (wh_puts_KA n hn h) (fun q1 h1 => ?_)
  refine wt_H_bh (wh_prints_KA n hn h1) (fun q2 h2 => wt_H_some h2)
theorem wh_canWord_KA (n : Nat) (hn : 4294967297 < n) {x1 : Int32} {z s : wt_St} (h : wu_KA z s) (p0 : 0 ≤ x1.toInt) (p1 : x1.toInt ≤ 59) : wt_H (wp_md_canWord n x1 s) (fun q => wu_KA z q.2 ∧ wt_fr (fun _ _ => False) (fun i => i = 287) s q.2) := by
  refine (wq_md_canWord n hn x1 s h.1 p0 p1).h.imp (fun q hq => ⟨⟨hq.2.1, fun c => (hq.1.2 124 (by decide) c).trans (h.2.1 c), fun c hc => (hq.1.2 286 (by decide) c).trans (h.2.2 c hc)⟩, hq.1⟩)
theorem wu_KE_fr {z s : wt_St} {F : Nat → Nat → Prop} {A : Nat → Prop} (f : wt_fr F A z s) (r : wt_RI s) (h : ¬ A 124 ∧ ¬ A 121) : wu_KE z s := ⟨r, f.2 124 h.1, fun c _ => f.2 121 h.2 c⟩
/-- the calls -/
theorem wh_mostR (n : Nat) (hn : 4294967297 < n) {x1 : Int32} {z : wt_St} (r : wt_RI z) : wt_H (wp_md_most n x1 z) (fun q => wu_KE z q.2) := by
  unfold wp_md_most
  obtain ⟨z0, ε0⟩ : ∃ o : wt_St, o = wt_sf z 108 0 (0 : Int32) := ⟨_, rfl⟩
  rw [← ε0]
  have g0 := wt_fr_sf ε0
  have t0 : wt_gf z0 108 0 = 0 := wt_v_sf ε0
  have r0 : wt_RI z0 := wt_RI_fno r ε0 (Or.inr (by decide +kernel))
  have B : ∀ w : Int32, w = 0 ∨ w = 1 → wt_H (wp_md_most_B20 n x1 w z0) (fun q => wu_KE z q.2) := fun w hw => by
    unfold wp_md_most_B20
    rcases hw with hw | hw
    · subst hw
      refine wt_H_bh (wh_bad0 n t0) (fun y hy => ?_)
      subst hy
      rw [if_pos (show ((0 : Int32), z0).1 = 0 from rfl)]
      refine wt_H_it (fun t : Int32 × Int32 × Int32 × wt_St => wu_KE z t.2.2.2) (fun K t I hK => ?_) n _ (wu_KE_fr g0 r0 ⟨fun h => h, fun h => h⟩)
      unfold wp_md_most_B36
      refine wt_H_if (fun _ => wt_H_if (fun _ => ?_) (fun _ => wt_H_if (fun _ => wt_H_some I) (fun _ => wt_H_some I))) (fun _ => ?_)
      · refine wt_H_bh (wq_md_worthOf n hn _ _ I.1).h (fun q8 h8 => ?_)
        refine wt_H_some ?_
        show wu_KE z q8.2
        rw [h8]
        exact I
      · refine wt_H_bh (wh_puts_KA n hn I) (fun q9 h9 => ?_)
        refine wt_H_bh (wh_prints_KA n hn h9) (fun q10 h10 => ?_)
        have N : ∀ w : Int32, wt_H (wp_md_most_B69 n x1 t.1 t.2.1 t.2.2.1 K w q10.2) (fun q => wu_KE z q.2) := fun w => by
          unfold wp_md_most_B69 wp_md_most_B106 wp_md_most_B107
          refine wt_H_bh (wh_putsBack_KE n hn h10) (fun q12 h12 => ?_)
          refine wt_H_if (fun _ => hK _ h12) (fun _ => ?_)
          refine wt_H_bh (wq_md_worthOf n hn _ _ h12.1).h (fun q14 h14 => ?_)
          rw [h14]
          refine wt_H_bh (wq_md_worthOf n hn _ _ h12.1).h (fun q15 h15 => ?_)
          rw [h15]
          exact wt_H_if (fun _ => hK _ h12) (fun _ => hK _ h12)
        exact wt_H_if (fun _ => N 0) (fun _ => N 1)
    · subst hw
      exact wh_b1 n t0 (by decide) (wu_KE_fr (wt_fr.tr g0 (wt_fr_sf rfl) (fun i k h => h) (fun i h => h)) (wt_RI_fno r0 rfl (Or.inr (by decide +kernel))) ⟨fun h => h, fun h => h⟩)
  refine wt_H_bh (wh_in n) (fun q1 h1 => ?_)
  rw [h1.1]
  exact wt_H_if (fun _ => B 1 (Or.inr rfl)) (fun _ => B 0 (Or.inl rfl))
theorem wh_greedyR (n : Nat) (hn : 4294967297 < n) {x1 : Int32} {z : wt_St} (r : wt_RI z) : wt_H (wp_md_greedy n x1 z) (fun q => wu_KE z q.2) := by
  unfold wp_md_greedy
  obtain ⟨z0, ε0⟩ : ∃ o : wt_St, o = wt_sf z 108 0 (0 : Int32) := ⟨_, rfl⟩
  rw [← ε0]
  have g0 := wt_fr_sf ε0
  have t0 : wt_gf z0 108 0 = 0 := wt_v_sf ε0
  have r0 : wt_RI z0 := wt_RI_fno r ε0 (Or.inr (by decide +kernel))
  have B : ∀ w : Int32, w = 0 ∨ w = 1 → wt_H (wp_md_greedy_B20 n x1 w z0) (fun q => wu_KE z q.2) := fun w hw => by
    unfold wp_md_greedy_B20
    rcases hw with hw | hw
    · subst hw
      refine wt_H_bh (wh_bad0 n t0) (fun y hy => ?_)
      subst hy
      rw [if_pos (show ((0 : Int32), z0).1 = 0 from rfl)]
      refine wt_H_bh (wh_greedyAhead_KA n hn (wu_KE_fr g0 r0 ⟨fun h => h, fun h => h⟩)) (fun q5 h5 => ?_)
      refine wt_H_bh (wh_putsBack_KE n hn h5) (fun q6 h6 => ?_)
      refine wt_H_if (fun _ => ?_) (fun _ => wt_H_some h6)
      refine wt_H_bh (wq_md_worthOf n hn _ _ h6.1).h (fun q8 h8 => wt_H_some ?_)
      show wu_KE z q8.2
      rw [h8]
      exact h6
    · subst hw
      exact wh_b1 n t0 (by decide) (wu_KE_fr (wt_fr.tr g0 (wt_fr_sf rfl) (fun i k h => h) (fun i h => h)) (wt_RI_fno r0 rfl (Or.inr (by decide +kernel))) ⟨fun h => h, fun h => h⟩)
  refine wt_H_bh (wh_in n) (fun q1 h1 => ?_)
  rw [h1.1]
  exact wt_H_if (fun _ => B 1 (Or.inr rfl)) (fun _ => B 0 (Or.inl rfl))
theorem wh_saidR (n : Nat) (hn : 4294967297 < n) {x1 x2 : Int32} {z : wt_St} (r : wt_RI z) : wt_H (wp_md_said n x1 x2 z) (fun q => wu_KE z q.2) := by
  unfold wp_md_said
  obtain ⟨z0, ε0⟩ : ∃ o : wt_St, o = wt_sf z 108 0 (0 : Int32) := ⟨_, rfl⟩
  rw [← ε0]
  have g0 := wt_fr_sf ε0
  have t0 : wt_gf z0 108 0 = 0 := wt_v_sf ε0
  have r0 : wt_RI z0 := wt_RI_fno r ε0 (Or.inr (by decide +kernel))
  have hz : 0 ≤ (wt_gf z0 108 28).toInt ∧ (wt_gf z0 108 28).toInt ≤ 60 := wt_Rf6 r0
  have X : ∀ k : Int32, wu_KE z (wt_sf z0 108 0 k) := fun k => wu_KE_fr (wt_fr.tr g0 (wt_fr_sf rfl) (fun i k h => h) (fun i h => h)) (wt_RI_fno r0 rfl (Or.inr (by decide +kernel))) ⟨fun h => h, fun h => h⟩
  refine wt_H_bh (wh_isWordNumber n hz.1 hz.2) (fun q1 h1 => ?_)
  obtain ⟨e1, h1⟩ := h1
  rw [e1]
  unfold wp_md_said_B19
  rcases h1 with ⟨a, b, c⟩ | ⟨a, -⟩
  · rw [if_neg (show ¬ q1.1 = 0 by rw [a]; decide)]
    refine wt_H_bh (wh_bad0 n t0) (fun y hy => ?_)
    subst hy
    rw [if_pos (show ((0 : Int32), z0).1 = 0 from rfl)]
    have W : wt_H (wp_md_isWeek n x2 z0) (fun q => q.2 = z0) := by
      unfold wp_md_isWeek
      exact wt_H_bh (wh_in n) (fun q hq => wt_H_some hq.1)
    refine wt_H_bh W (fun q5 h5 => ?_)
    rw [h5]
    unfold wp_md_said_B39
    refine wt_H_if (fun _ => wh_b1 n t0 (by decide) (X 2)) (fun _ => ?_)
    refine wt_H_bh (wh_bad0 n t0) (fun y hy => ?_)
    subst hy
    rw [if_pos (show ((0 : Int32), z0).1 = 0 from rfl)]
    refine wt_H_bh (wh_greedyAhead_KA n hn (wu_KE_fr g0 r0 ⟨fun h => h, fun h => h⟩)) (fun q9 h9 => ?_)
    refine wt_H_bh (wh_canWord_KA n hn h9 b (by omega)) (fun q10 h10 => ?_)
    exact wt_H_bh (wh_putsBack_KE n hn h10.1) (fun q11 h11 => wt_H_some h11)
  · rw [if_pos (show q1.1 = 0 from a)]
    exact wh_b1 n t0 (by decide) (X 1)
theorem wh_endsR (n : Nat) (hn : 4294967297 < n) {x1 : Int32} {z : wt_St} (r : wt_RI z) : wt_H (wp_md_ends n x1 z) (fun q => wu_KE z q.2) := by
  unfold wp_md_ends
  obtain ⟨z0, ε0⟩ : ∃ o : wt_St, o = wt_sf z 108 0 (0 : Int32) := ⟨_, rfl⟩
  rw [← ε0]
  have g0 := wt_fr_sf ε0
  have t0 : wt_gf z0 108 0 = 0 := wt_v_sf ε0
  have r0 : wt_RI z0 := wt_RI_fno r ε0 (Or.inr (by decide +kernel))
  have hz : 0 ≤ (wt_gf z0 108 28).toInt ∧ (wt_gf z0 108 28).toInt ≤ 60 := wt_Rf6 r0
  have X : ∀ k : Int32, wu_KE z (wt_sf z0 108 0 k) := fun k => wu_KE_fr (wt_fr.tr g0 (wt_fr_sf rfl) (fun i k h => h) (fun i h => h)) (wt_RI_fno r0 rfl (Or.inr (by decide +kernel))) ⟨fun h => h, fun h => h⟩
  refine wt_H_bh (wh_isWordNumber n hz.1 hz.2) (fun q1 h1 => ?_)
  obtain ⟨e1, h1⟩ := h1
  rw [e1]
  unfold wp_md_ends_B19
  rcases h1 with ⟨a, b, c⟩ | ⟨a, -⟩
  · rw [if_neg (show ¬ q1.1 = 0 by rw [a]; decide)]
    refine wt_H_bh (wh_bad0 n t0) (fun y hy => ?_)
    subst hy
    rw [if_pos (show ((0 : Int32), z0).1 = 0 from rfl)]
    refine wt_H_it (fun t : Int32 × wt_St => wu_KE z t.2) (fun K t I hK => ?_) n _ (wu_KE_fr g0 r0 ⟨fun h => h, fun h => h⟩)
    unfold wp_md_ends_B30
    refine wt_H_if (fun _ => wt_H_some I) (fun _ => ?_)
    refine wt_H_bh (wh_greedyAhead_KA n hn I) (fun q9 h9 => ?_)
    refine wt_H_bh (wh_canWord_KA n hn h9 b (by omega)) (fun q10 h10 => ?_)
    refine wt_H_bh (wh_putsBack_KE n hn h10.1) (fun q11 h11 => ?_)
    exact wt_H_if (fun _ => wt_H_some h11) (fun _ => hK _ h11)
  · rw [if_pos (show q1.1 = 0 from a)]
    exact wh_b1 n t0 (by decide) (X 1)
theorem wh_lostR (n : Nat) (hn : 4294967297 < n) {x1 : Int32} {z : wt_St} (r : wt_RI z) : wt_H (wp_md_lost n x1 z) (fun q => wu_KE z q.2) := by
  have k0 : (0 : Int32).toInt = 0 := by decide
  unfold wp_md_lost
  obtain ⟨z0, ε0⟩ : ∃ o : wt_St, o = wt_sf z 108 0 (0 : Int32) := ⟨_, rfl⟩
  rw [← ε0]
  have g0 := wt_fr_sf ε0
  have t0 : wt_gf z0 108 0 = 0 := wt_v_sf ε0
  have r0 : wt_RI z0 := wt_RI_fno r ε0 (Or.inr (by decide +kernel))
  have X : ∀ k : Int32, wu_KE z (wt_sf z0 108 0 k) := fun k => wu_KE_fr (wt_fr.tr g0 (wt_fr_sf rfl) (fun i k h => h) (fun i h => h)) (wt_RI_fno r0 rfl (Or.inr (by decide +kernel))) ⟨fun h => h, fun h => h⟩
  have W : wt_H (wp_md_isWeek n x1 z0) (fun q => q.2 = z0) := by
    unfold wp_md_isWeek
    exact wt_H_bh (wh_in n) (fun q hq => wt_H_some hq.1)
  refine wt_H_bh W (fun q1 h1 => ?_)
  rw [h1]
  unfold wp_md_lost_B18
  refine wt_H_if (fun _ => wh_b1 n t0 (by decide) (X 1)) (fun _ => ?_)
  refine wt_H_bh (wh_bad0 n t0) (fun y hy => ?_)
  subst hy
  rw [if_pos (show ((0 : Int32), z0).1 = 0 from rfl)]
  refine wt_H_bh (wh_greedyAhead_KA n hn (wu_KE_fr g0 r0 ⟨fun h => h, fun h => h⟩)) (fun q5 h5 => ?_)
  refine wt_H_it (fun t : Int32 × Int32 × wt_St => 0 ≤ t.2.1.toInt ∧ wu_KA z t.2.2) (fun K t I hK => ?_) n _ ⟨by show 0 ≤ ((0 : Int32)).toInt; omega, h5⟩
  obtain ⟨i1, i2⟩ := I
  have hz : 0 ≤ (wt_gf t.2.2 108 28).toInt ∧ (wt_gf t.2.2 108 28).toInt ≤ 60 := wt_Rf6 i2.1
  unfold wp_md_lost_B37 wp_md_lost_B59
  refine wt_H_if (fun _ => ?_) (fun c => ?_)
  · exact wt_H_bh (wh_putsBack_KE n hn i2) (fun q7 h7 => wt_H_some h7)
  · have c' := wt_ncle c
    have ei := wt_i1 (c := t.2.1) (by omega)
    refine wt_H_bh (wh_canWord_KA n hn i2 i1 (by omega)) (fun q8 h8 => ?_)
    exact wt_H_if (fun _ => hK _ ⟨by show 0 ≤ (t.2.1 + (1 : Int32)).toInt; omega, h8.1⟩) (fun _ => hK _ ⟨by show 0 ≤ (t.2.1 + (1 : Int32)).toInt; omega, h8.1⟩)
/-- the pieces that there are: where they lie, what they have left -/
def wu_KV (z y : wt_St) : Prop := (∀ l, wt_ga y 111 l = wt_ga z 111 l) ∧ ∀ l i : Nat, l < 26 → (i : Int) < (wt_ga z 111 l).toInt → wt_ga y 121 (13 * l + i) = wt_ga z 121 (13 * l + i) ∧ wt_ga y 124 (13 * l + i) = wt_ga z 124 (13 * l + i)
theorem wu_KV_rf (z : wt_St) : wu_KV z z := ⟨fun _ => rfl, fun _ _ _ _ => ⟨rfl, rfl⟩⟩
theorem wu_KV_fr {z y y' : wt_St} {F : Nat → Nat → Prop} {A : Nat → Prop} (h : wu_KV z y) (f : wt_fr F A y y') (hA : ¬ A 111 ∧ ¬ A 121 ∧ ¬ A 124) : wu_KV z y' := ⟨fun l => (f.2 111 hA.1 l).trans (h.1 l), fun l i hl hi => ⟨(f.2 121 hA.2.1 _).trans (h.2 l i hl hi).1, (f.2 124 hA.2.2 _).trans (h.2 l i hl hi).2⟩⟩
theorem wu_KV_KE {z y : wt_St} (m : wt_M12 z) (h1 : ∀ l, wt_ga y 111 l = wt_ga z 111 l) (h : wu_KE z y) : wu_KV z y := ⟨h1, fun l i hl hi => ⟨h.2.2 _ (by have := m l; omega), h.2.1 _⟩⟩
set_option maxHeartbeats 4000000 in
theorem wh_withOneR (n : Nat) (hn : 4294967297 < n) {x1 x2 : Int32} {l : Nat} {z : wt_St} (r : wt_RI z) (m : wt_M12 z) (hx : x1.toInt = (l : Int)) (hl : l < 26) (p2 : 0 ≤ x2.toInt) (p3 : x2.toInt ≤ 400) : wt_H (wp_md_withOne n x1 x2 z) (fun q => (wt_RI q.2 ∧ wt_M12 q.2) ∧ (∀ j, wt_ga q.2 111 j = wt_ga z 111 j) ∧ ∀ c, c ≠ 13 * l + Int32.toNatClampNeg (wt_ga z 111 l) → wt_ga q.2 121 c = wt_ga z 121 c ∧ wt_ga q.2 124 c = wt_ga z 124 c) := by
  have k1 : (1 : Int32).toInt = 1 := by decide
  have ex := wt_tnN hx
  have g : 0 ≤ (wt_ga z 111 l).toInt ∧ (wt_ga z 111 l).toInt ≤ 13 := wt_Ra1 r 111 (show 111 ≤ 111 by omega) (show 111 < 112 by omega) l
  have ml := m l
  have et := wt_tnI g.1
  have W := (wq_md_withOne n hn x1 x2 z r m (by omega) (by omega) p2 p3).h
  refine (wt_H_and (Q := fun q => (∀ j, wt_ga q.2 111 j = wt_ga z 111 j) ∧ ∀ c, c ≠ 13 * l + Int32.toNatClampNeg (wt_ga z 111 l) → wt_ga q.2 121 c = wt_ga z 121 c ∧ wt_ga q.2 124 c = wt_ga z 124 c) W ?_).imp (fun q hq => ⟨⟨hq.1.2.1, hq.1.2.2⟩, hq.2⟩)
  unfold wp_md_withOne
  rw [ex]
  refine wt_H_gd (fun _ => ?_)
  refine wt_H_bh (wh_cell n (l := l) (i := Int32.toNatClampNeg (wt_ga z 111 l)) hx et.symm hl (by omega)) (fun q2 h2 => ?_)
  obtain ⟨e2, c2⟩ := h2
  rw [e2, wt_tnN c2]
  refine wt_H_gd (fun _ => wt_H_gd (fun _ => wt_H_gd (fun _ => wt_H_gd (fun _ => ?_))))
  obtain ⟨s1, ε1⟩ : ∃ o : wt_St, o = wt_sa z 121 (13 * l + Int32.toNatClampNeg (wt_ga z 111 l)) x2 := ⟨_, rfl⟩
  rw [← ε1]
  have r1 := wt_Rn3 r ε1 (by decide) (by decide) p2 p3
  obtain ⟨s2, ε2⟩ : ∃ o : wt_St, o = wt_sa s1 124 (13 * l + Int32.toNatClampNeg (wt_ga z 111 l)) (-1 : Int32) := ⟨_, rfl⟩
  rw [← ε2]
  have r2 := wt_RI_no r1 ε2 124 125 (by decide +kernel) (by decide) (by decide)
  have f1 := wt_fr_sa ε1
  have f2 := wt_fr_sa ε2
  have e111 : ∀ j, wt_ga s2 111 j = wt_ga z 111 j := fun j => (f2.2 111 (by decide) j).trans (f1.2 111 (by decide) j)
  rw [e111]
  have ei := wt_i1 (c := wt_ga z 111 l) (by omega)
  obtain ⟨s3, ε3⟩ : ∃ o : wt_St, o = wt_sa s2 111 l ((wt_ga z 111 l) + (1 : Int32)) := ⟨_, rfl⟩
  rw [← ε3]
  have r3 := wt_Rn1 r2 ε3 (by decide) (by decide) (show 0 ≤ ((wt_ga z 111 l) + (1 : Int32)).toInt by omega) (show ((wt_ga z 111 l) + (1 : Int32)).toInt ≤ 13 by omega)
  refine wt_H_bh (wh_oftenM n hn r3) (fun q7 h7 => ?_)
  rw [h7.1]
  refine wt_H_gd (fun _ => wt_H_gd (fun _ => ?_))
  have v3 : wt_ga s3 111 l = (wt_ga z 111 l) + (1 : Int32) := wt_v_sa ε3
  rw [v3]
  obtain ⟨s4, ε4⟩ : ∃ o : wt_St, o = wt_sa s3 111 l (((wt_ga z 111 l) + (1 : Int32)) - (1 : Int32)) := ⟨_, rfl⟩
  rw [← ε4]
  have f3 := wt_fr_sa ε3
  have f4 := wt_fr_sa ε4
  refine wt_H_some ⟨fun j => ?_, fun c hc => ⟨?_, ?_⟩⟩
  · show wt_ga s4 111 j = wt_ga z 111 j
    by_cases h : j = l
    · rw [h, wt_v_sa ε4]
      have es := wt_subE (x := (wt_ga z 111 l) + (1 : Int32)) (y := (1 : Int32)) (by omega) (by omega)
      exact wt_eqI (by omega)
    · rw [wt_w_sa ε4 j h, wt_w_sa ε3 j h]
      exact e111 j
  · show wt_ga s4 121 c = wt_ga z 121 c
    rw [f4.2 121 (by decide), f3.2 121 (by decide), f2.2 121 (by decide), wt_w_sa ε1 c hc]
  · show wt_ga s4 124 c = wt_ga z 124 c
    rw [f4.2 124 (by decide), f3.2 124 (by decide), wt_w_sa ε2 c hc, f1.2 124 (by decide)]
theorem wh_castR (n : Nat) (hn : 4294967297 < n) {x1 x2 : Int32} {z : wt_St} (r : wt_RI z) (m : wt_M12 z) : wt_H (wp_md_cast n x1 x2 z) (fun q => wu_KV z q.2) := by
  have k0 : (0 : Int32).toInt = 0 := by decide
  have k26 : (26 : Int32).toInt = 26 := by decide
  unfold wp_md_cast
  obtain ⟨z0, ε0⟩ : ∃ o : wt_St, o = wt_sf z 108 0 (0 : Int32) := ⟨_, rfl⟩
  rw [← ε0]
  have g0 := wt_fr_sf ε0
  have t0 : wt_gf z0 108 0 = 0 := wt_v_sf ε0
  have r0 : wt_RI z0 := wt_RI_fno r ε0 (Or.inr (by decide +kernel))
  have hz : 0 ≤ (wt_gf z0 108 39).toInt ∧ (wt_gf z0 108 39).toInt ≤ 8 := wt_Rf7 r0
  have V0 : wu_KV z z0 := wu_KV_fr (wu_KV_rf z) g0 ⟨fun h => h, fun h => h, fun h => h⟩
  have X : ∀ k : Int32, wu_KV z (wt_sf z0 108 0 k) := fun k => wu_KV_fr V0 (wt_fr_sf rfl) ⟨fun h => h, fun h => h, fun h => h⟩
  refine wt_H_bh (wh_isText n hz.1 hz.2) (fun q1 h1 => ?_)
  obtain ⟨e1, h1⟩ := h1
  rw [e1]
  unfold wp_md_cast_B19
  rcases h1 with ⟨a, b, c⟩ | ⟨a, -⟩
  · rw [if_neg (show ¬ q1.1 = 0 by rw [a]; decide)]
    refine wt_H_bh (wh_bad0 n t0) (fun y hy => ?_)
    subst hy
    rw [if_pos (show ((0 : Int32), z0).1 = 0 from rfl)]
    refine wt_H_bh (wh_isCopies n) (fun q5 h5 => ?_)
    obtain ⟨e5, h5⟩ := h5
    rw [e5]
    unfold wp_md_cast_B39
    rcases h5 with ⟨d, d1, d2⟩ | ⟨d, -⟩
    · rw [if_neg (show ¬ q5.1 = 0 by rw [d]; decide)]
      refine wt_H_bh (wh_bad0 n t0) (fun y hy => ?_)
      subst hy
      rw [if_pos (show ((0 : Int32), z0).1 = 0 from rfl)]
      refine wt_H_bh (wq_md_needsText n hn x1 z0 r0 b (by omega)).h (fun q9 h9 => ?_)
      obtain ⟨f9, r9, -, -⟩ := h9
      refine wt_H_bh (wh_oftenM n hn r9) (fun q10 h10 => ?_)
      rw [h10.1]
      have V9 := wu_KV_fr V0 f9 ⟨by decide, by decide, by decide⟩
      refine wt_H_it (fun t : Int32 × Int32 × Int32 × wt_St => 0 ≤ t.2.2.1.toInt ∧ wt_RI t.2.2.2 ∧ wt_M12 t.2.2.2 ∧ wu_KV z t.2.2.2) (fun K t I hK => ?_) n _ ⟨by show 0 ≤ ((0 : Int32)).toInt; omega, r9, fun j => by rw [V9.1]; exact m j, V9⟩
      obtain ⟨i0, ir, im, iv⟩ := I
      have et := wt_tnI i0
      unfold wp_md_cast_B64 wp_md_cast_B96
      refine wt_H_if (fun _ => wt_H_some iv) (fun e => ?_)
      have e' := wt_ncle e
      have ei := wt_i1 (c := t.2.2.1) (by omega)
      refine wt_H_bh (wh_withOneR n hn ir im et.symm (by omega) (by omega) d2) (fun q12 h12 => ?_)
      obtain ⟨⟨wr, wm⟩, w1, w2⟩ := h12
      have V : wu_KV z q12.2 := ⟨fun j => (w1 j).trans (iv.1 j), fun l i hl hi => by
        have gl : 0 ≤ (wt_ga t.2.2.2 111 (Int32.toNatClampNeg t.2.2.1)).toInt ∧ (wt_ga t.2.2.2 111 (Int32.toNatClampNeg t.2.2.1)).toInt ≤ 13 := wt_Ra1 ir 111 (show 111 ≤ 111 by omega) (show 111 < 112 by omega) (Int32.toNatClampNeg t.2.2.1)
        have el := wt_tnI gl.1
        have ml := im (Int32.toNatClampNeg t.2.2.1)
        have mz := m l
        have ev := congrArg Int32.toInt (iv.1 (Int32.toNatClampNeg t.2.2.1))
        have nc : 13 * l + i ≠ 13 * (Int32.toNatClampNeg t.2.2.1) + Int32.toNatClampNeg (wt_ga t.2.2.2 111 (Int32.toNatClampNeg t.2.2.1)) := fun h => by
          have hll : l = Int32.toNatClampNeg t.2.2.1 := by omega
          rw [← hll] at ev h el
          omega
        obtain ⟨p1, p2⟩ := w2 _ nc
        exact ⟨p1.trans (iv.2 l i hl hi).1, p2.trans (iv.2 l i hl hi).2⟩⟩
      exact wt_H_if (fun _ => hK _ ⟨by show 0 ≤ (t.2.2.1 + (1 : Int32)).toInt; omega, wr, wm, V⟩) (fun _ => hK _ ⟨by show 0 ≤ (t.2.2.1 + (1 : Int32)).toInt; omega, wr, wm, V⟩)
    · rw [if_pos (show q5.1 = 0 from d)]
      exact wh_b1 n t0 (by decide) (X 2)
  · rw [if_pos (show q1.1 = 0 from a)]
    exact wh_b1 n t0 (by decide) (X 1)
set_option maxHeartbeats 8000000 in
theorem wh_exchangeR (n : Nat) (hn : 4294967297 < n) {x1 : Int32} {z : wt_St} (r : wt_RI z) (m : wt_M12 z) : wt_H (wp_md_exchange n x1 z) (fun q => wu_KV z q.2) := by
  have k0 : (0 : Int32).toInt = 0 := by decide
  have k26 : (26 : Int32).toInt = 26 := by decide
  unfold wp_md_exchange
  obtain ⟨z0, ε0⟩ : ∃ o : wt_St, o = wt_sf z 108 0 (0 : Int32) := ⟨_, rfl⟩
  rw [← ε0]
  have g0 := wt_fr_sf ε0
  have t0 : wt_gf z0 108 0 = 0 := wt_v_sf ε0
  have r0 : wt_RI z0 := wt_RI_fno r ε0 (Or.inr (by decide +kernel))
  have hz : 0 ≤ (wt_gf z0 108 39).toInt ∧ (wt_gf z0 108 39).toInt ≤ 8 := wt_Rf7 r0
  have V0 : wu_KV z z0 := wu_KV_fr (wu_KV_rf z) g0 ⟨fun h => h, fun h => h, fun h => h⟩
  have X : ∀ k : Int32, wu_KV z (wt_sf z0 108 0 k) := fun k => wu_KV_fr V0 (wt_fr_sf rfl) ⟨fun h => h, fun h => h, fun h => h⟩
  refine wt_H_bh (wh_isText n hz.1 hz.2) (fun q1 h1 => ?_)
  obtain ⟨e1, h1⟩ := h1
  rw [e1]
  unfold wp_md_exchange_B19
  rcases h1 with ⟨a, b, c⟩ | ⟨a, -⟩
  rotate_left
  · rw [if_pos (show q1.1 = 0 from a)]
    exact wh_b1 n t0 (by decide) (X 1)
  rw [if_neg (show ¬ q1.1 = 0 by rw [a]; decide)]
  refine wt_H_bh (wh_bad0 n t0) (fun y hy => ?_)
  subst hy
  rw [if_pos (show ((0 : Int32), z0).1 = 0 from rfl)]
  refine wt_H_bh (wq_md_needsText n hn x1 z0 r0 b (by omega)).h (fun q9 h9 => ?_)
  obtain ⟨f9, r9, -, -⟩ := h9
  refine wt_H_bh (wh_oftenM n hn r9) (fun q10 h10 => ?_)
  rw [h10.1]
  have V9 := wu_KV_fr V0 f9 ⟨by decide, by decide, by decide⟩
  refine wt_H_it (fun t : Int32 × Int32 × Int32 × wt_St => 0 ≤ t.2.2.1.toInt ∧ wt_RI t.2.2.2 ∧ wt_M12 t.2.2.2 ∧ wu_KV z t.2.2.2) (fun K t I hK => ?_) n _ ⟨by show 0 ≤ ((0 : Int32)).toInt; omega, r9, fun j => by rw [V9.1]; exact m j, V9⟩
  obtain ⟨i0, ir, im, iv⟩ := I
  have et := wt_tnI i0
  unfold wp_md_exchange_B43
  refine wt_H_if (fun _ => wt_H_some iv) (fun e => ?_)
  have e' := wt_ncle e
  have ei := wt_i1 (c := t.2.2.1) (by omega)
  obtain ⟨A, hA⟩ : ∃ A : Nat, A = Int32.toNatClampNeg t.2.2.1 := ⟨_, rfl⟩
  rw [← hA] at et
  have hA26 : A < 26 := by omega
  have gA : 0 ≤ (wt_ga t.2.2.2 111 A).toInt ∧ (wt_ga t.2.2.2 111 A).toInt ≤ 13 := wt_Ra1 ir 111 (show 111 ≤ 111 by omega) (show 111 < 112 by omega) A
  have mA := im A
  -- the piece that goes
  refine wt_H_it (fun u : Int32 × Int32 × wt_St => u.2.2 = t.2.2.2 ∧ 0 ≤ u.2.1.toInt ∧ (u.1 = (-1 : Int32) ∨ ∃ i : Nat, (i : Int) < (wt_ga t.2.2.2 111 A).toInt ∧ u.1.toInt = ((13 * A + i : Nat) : Int))) (fun K2 u J hK2 => ?_) n _ ⟨rfl, by show 0 ≤ ((0 : Int32)).toInt; omega, Or.inl rfl⟩
  obtain ⟨j0, j1, j2⟩ := J
  have eu := wt_tnI j1
  unfold wp_md_exchange_B56
  rw [j0, ← hA]
  refine wt_H_gd (fun _ => wt_H_if (fun _ => ?_) (fun f => ?_))
  rotate_left
  · have f' := wt_ncle f
    have eui := wt_i1 (c := u.2.1) (by omega)
    refine wt_H_bh (wh_cell n (l := A) (i := Int32.toNatClampNeg u.2.1) et.symm eu.symm hA26 (by omega)) (fun q26 h26 => ?_)
    obtain ⟨e26, c26⟩ := h26
    rw [e26]
    unfold wp_md_exchange_B112 wp_md_exchange_B121
    have S : wt_H (K2 (u.1, (u.2.1 + (1 : Int32)), t.2.2.2)) (fun q => wu_KV z q.2) := hK2 _ ⟨rfl, by show 0 ≤ (u.2.1 + (1 : Int32)).toInt; omega, j2⟩
    have N : wt_H ((wp_md_cell n t.2.2.1 u.2.1 t.2.2.2).bind fun q30 => K2 (q30.1, (u.2.1 + (1 : Int32)), q30.2)) (fun q => wu_KV z q.2) := by
      refine wt_H_bh (wh_cell n (l := A) (i := Int32.toNatClampNeg u.2.1) et.symm eu.symm hA26 (by omega)) (fun q30 h30 => ?_)
      rw [h30.1]
      exact hK2 _ ⟨rfl, by show 0 ≤ (u.2.1 + (1 : Int32)).toInt; omega, Or.inr ⟨Int32.toNatClampNeg u.2.1, by omega, h30.2⟩⟩
    refine wt_H_gd (fun _ => wt_H_if (fun _ => wt_H_if (fun _ => N) (fun _ => ?_)) (fun _ => S))
    refine wt_H_bh (wh_cell n (l := A) (i := Int32.toNatClampNeg u.2.1) et.symm eu.symm hA26 (by omega)) (fun q31 h31 => ?_)
    rw [h31.1]
    exact wt_H_gd (fun _ => wt_H_gd (fun _ => wt_H_if (fun _ => S) (fun _ => N)))
  -- what comes for it
  refine wt_H_it (fun w : Int32 × Int32 × Int32 × wt_St => 0 ≤ w.2.2.1.toInt ∧ wt_RI w.2.2.2 ∧ wt_M12 w.2.2.2 ∧ wu_KV z w.2.2.2) (fun K3 w L hK3 => ?_) n _ ⟨by show 0 ≤ ((0 : Int32)).toInt; omega, ir, im, iv⟩
  obtain ⟨w0, wr, wm, wv⟩ := L
  have ew := wt_tnI w0
  unfold wp_md_exchange_B130 wp_md_exchange_B279
  have OUT : wt_H (K (w.1, w.2.1, (t.2.2.1 + (1 : Int32)), w.2.2.2)) (fun q => wu_KV z q.2) := hK _ ⟨by show 0 ≤ (t.2.2.1 + (1 : Int32)).toInt; omega, wr, wm, wv⟩
  refine wt_H_if (fun _ => OUT) (fun g => wt_H_if (fun _ => OUT) (fun h => ?_))
  have g' := wt_ncle g
  have ewi := wt_i1 (c := w.2.2.1) (by omega)
  unfold wp_md_exchange_B273
  refine wt_H_gd (fun _ => wt_H_if (fun _ => hK3 _ ⟨by show 0 ≤ (w.2.2.1 + (1 : Int32)).toInt; omega, wr, wm, wv⟩) (fun _ => ?_))
  obtain ⟨ic, ic1, ic2⟩ : ∃ i : Nat, (i : Int) < (wt_ga t.2.2.2 111 A).toInt ∧ u.1.toInt = ((13 * A + i : Nat) : Int) := by
    rcases j2 with j2 | j2
    · exact absurd j2 h
    · exact j2
  have ec := wt_tnN ic2
  obtain ⟨B, hB⟩ : ∃ B : Nat, B = Int32.toNatClampNeg w.2.2.1 := ⟨_, rfl⟩
  rw [← hB] at ew
  have hB26 : B < 26 := by omega
  refine wt_H_it (fun p : Int32 × Int32 × wt_St => p.2.2 = w.2.2.2 ∧ 0 ≤ p.1.toInt ∧ p.1.toInt ≤ 400) (fun K4 p P hK4 => ?_) n _ ⟨rfl, by show 0 ≤ ((0 : Int32)).toInt; omega, by show ((0 : Int32)).toInt ≤ 400; omega⟩
  obtain ⟨p0, p1, p2⟩ := P
  unfold wp_md_exchange_B162 wp_md_exchange_B208 wp_md_exchange_B273
  rw [p0, ec]
  refine wt_H_gd (fun _ => wt_H_if (fun _ => ?_) (fun _ => ?_))
  · refine wt_H_gd (fun _ => wt_H_gd (fun _ => ?_))
    obtain ⟨s1, ε1⟩ : ∃ o : wt_St, o = wt_sa w.2.2.2 121 (13 * A + ic) (0 : Int32) := ⟨_, rfl⟩
    rw [← ε1]
    have f1 := wt_fr_sa ε1
    have r1 := wt_Rn3 wr ε1 (by decide) (by decide) (show 0 ≤ ((0 : Int32)).toInt by omega) (show ((0 : Int32)).toInt ≤ 400 by omega)
    have e111 : ∀ j, wt_ga s1 111 j = wt_ga w.2.2.2 111 j := f1.2 111 (by decide)
    refine wt_H_bh (wh_withOneR n hn r1 (fun j => by rw [e111]; exact wm j) ew.symm hB26 p1 p2) (fun q18 h18 => ?_)
    obtain ⟨⟨qr, qm⟩, q111, qc⟩ := h18
    have gc : 0 ≤ (wt_ga w.2.2.2 121 (13 * A + ic)).toInt ∧ (wt_ga w.2.2.2 121 (13 * A + ic)).toInt ≤ 400 := wt_Ra3 wr 121 (show 120 ≤ 121 by omega) (show 121 < 122 by omega) (13 * A + ic)
    refine wt_H_gd (fun _ => ?_)
    obtain ⟨s2, ε2⟩ : ∃ o : wt_St, o = wt_sa q18.2 121 (13 * A + ic) (wt_ga w.2.2.2 121 (13 * A + ic)) := ⟨_, rfl⟩
    rw [← ε2]
    have f2 := wt_fr_sa ε2
    have r2 := wt_Rn3 qr ε2 (by decide) (by decide) gc.1 gc.2
    have a111 : ∀ j, wt_ga s2 111 j = wt_ga z 111 j := fun j => (f2.2 111 (by decide) j).trans ((q111 j).trans ((e111 j).trans (wv.1 j)))
    have V : wu_KV z s2 := ⟨a111, fun l i hl hi => by
      have gB : 0 ≤ (wt_ga w.2.2.2 111 B).toInt ∧ (wt_ga w.2.2.2 111 B).toInt ≤ 13 := wt_Ra1 wr 111 (show 111 ≤ 111 by omega) (show 111 < 112 by omega) B
      have eB := wt_tnI gB.1
      have mB := wm B
      have ml := m l
      have evB := congrArg Int32.toInt (wv.1 B)
      have nc : 13 * l + i ≠ 13 * B + Int32.toNatClampNeg (wt_ga s1 111 B) := fun h => by
        rw [e111] at h
        have hll : l = B := by omega
        rw [hll] at hi
        omega
      obtain ⟨c1, c2⟩ := qc _ nc
      refine ⟨?_, ?_⟩
      · by_cases h : 13 * l + i = 13 * A + ic
        · rw [h, wt_v_sa ε2, ← h]
          exact (wv.2 l i hl hi).1
        · rw [wt_w_sa ε2 _ h, c1, wt_w_sa ε1 _ h]
          exact (wv.2 l i hl hi).1
      · rw [f2.2 124 (by decide), c2, f1.2 124 (by decide)]
        exact (wv.2 l i hl hi).2⟩
    have M : wt_M12 s2 := fun j => by rw [a111]; exact m j
    exact wt_H_if (fun _ => hK3 _ ⟨by show 0 ≤ (w.2.2.1 + (1 : Int32)).toInt; omega, r2, M, V⟩) (fun _ => hK3 _ ⟨by show 0 ≤ (w.2.2.1 + (1 : Int32)).toInt; omega, r2, M, V⟩)
  · have CE : wt_H (wp_md_cell n w.2.2.1 p.2.1 w.2.2.2) (fun q => q.2 = w.2.2.2) := by
      unfold wp_md_cell
      exact wt_H_some rfl
    refine wt_H_bh CE (fun q21 h21 => ?_)
    rw [h21]
    refine wt_H_gd (fun _ => wt_H_if (fun _ => hK4 _ ⟨rfl, p1, p2⟩) (fun _ => ?_))
    refine wt_H_bh CE (fun q24 h24 => ?_)
    rw [h24]
    have g3 : 0 ≤ (wt_ga w.2.2.2 123 (Int32.toNatClampNeg q24.1)).toInt ∧ (wt_ga w.2.2.2 123 (Int32.toNatClampNeg q24.1)).toInt ≤ 400 := wt_Ra4 wr 123 (show 122 ≤ 123 by omega) (show 123 < 124 by omega) (Int32.toNatClampNeg q24.1)
    exact wt_H_gd (fun _ => hK4 _ ⟨rfl, g3.1, g3.2⟩)
/-- tried together, taken apart again -/
def wu_KT (z y : wt_St) : Prop := wt_RI y ∧ (∀ j, wt_ga y 111 j = wt_ga z 111 j) ∧ (∀ c, wt_ga y 121 c = wt_ga z 121 c) ∧ ∀ c, wt_ga y 124 c = wt_ga z 124 c ∨ (wt_ga z 124 c = (-1 : Int32) ∧ wt_ga y 124 c = (4 : Int32)) ∨ wt_ga z 124 c = (4 : Int32)
theorem wu_KT_fr {z y y' : wt_St} {F : Nat → Nat → Prop} {A : Nat → Prop} (h : wu_KT z y) (f : wt_fr F A y y') (r : wt_RI y') (hA : ¬ A 111 ∧ ¬ A 121 ∧ ¬ A 124) : wu_KT z y' := ⟨r, fun j => (f.2 111 hA.1 j).trans (h.2.1 j), fun c => (f.2 121 hA.2.1 c).trans (h.2.2.1 c), fun c => by rw [f.2 124 hA.2.2 c]; exact h.2.2.2 c⟩
def wu_K0 (z y : wt_St) : Prop := wt_RI y ∧ (∀ j, wt_ga y 111 j = wt_ga z 111 j) ∧ (∀ c, wt_ga y 121 c = wt_ga z 121 c) ∧ ∀ c, c < 338 → wt_ga y 124 c = wt_ga z 124 c ∨ wt_ga z 124 c = (4 : Int32)
set_option maxHeartbeats 8000000 in
theorem wh_togetherR (n : Nat) (hn : 4294967297 < n) {x1 : Int32} {z : wt_St} (r : wt_RI z) : wt_H (wp_md_together n x1 z) (fun q => wu_K0 z q.2) := by
  have k0 : (0 : Int32).toInt = 0 := by decide
  have k338 : (338 : Int32).toInt = 338 := by decide
  unfold wp_md_together
  obtain ⟨z0, ε0⟩ : ∃ o : wt_St, o = wt_sf z 108 0 (0 : Int32) := ⟨_, rfl⟩
  rw [← ε0]
  have g0 := wt_fr_sf ε0
  have t0 : wt_gf z0 108 0 = 0 := wt_v_sf ε0
  have r0 : wt_RI z0 := wt_RI_fno r ε0 (Or.inr (by decide +kernel))
  have T0 : wu_K0 z z0 := ⟨r0, g0.2 111 (fun h => h), g0.2 121 (fun h => h), fun c _ => Or.inl (g0.2 124 (fun h => h) c)⟩
  refine wt_H_bh (wh_isCopies n) (fun q1 h1 => ?_)
  rw [h1.1]
  unfold wp_md_together_B18
  refine wt_H_if (fun _ => wh_b1 n t0 (by decide) ?_) (fun _ => ?_)
  · have g1 : wt_fr _ _ z0 (wt_sf z0 108 0 (1 : Int32)) := wt_fr_sf rfl
    exact ⟨wt_RI_fno r0 rfl (Or.inr (by decide +kernel)), fun j => (g1.2 111 (fun h => h) j).trans (T0.2.1 j), fun c => (g1.2 121 (fun h => h) c).trans (T0.2.2.1 c), fun c hc => by rw [g1.2 124 (fun h => h) c]; exact T0.2.2.2 c hc⟩
  refine wt_H_bh (wh_bad0 n t0) (fun y hy => ?_)
  subst hy
  rw [if_pos (show ((0 : Int32), z0).1 = 0 from rfl)]
  refine wt_H_it (fun t : Int32 × Int32 × wt_St => wu_K0 z t.2.2) (fun K t I hK => ?_) n _ T0
  unfold wp_md_together_B31 wp_md_together_B164
  refine wt_H_if (fun _ => wt_H_some I) (fun _ => ?_)
  refine wt_H_bh (wq_md_ones n hn _ _ I.1).h (fun q6 h6 => ?_)
  rw [h6]
  refine wt_H_bh (wq_md_ones n hn _ _ I.1).h (fun q7 h7 => ?_)
  rw [h7]
  refine wt_H_if (fun _ => ?_) (fun _ => hK _ I)
  -- the row is taken back at the end
  have BACK : ∀ (x4 : Int32) (s : wt_St), wt_RI s → (∀ j, wt_ga s 111 j = wt_ga z 111 j) → (∀ c, wt_ga s 121 c = wt_ga z 121 c) → (∀ c, c < 338 → wt_ga s 124 c = wt_ga z 124 c ∨ (wt_ga z 124 c = (-1 : Int32) ∧ wt_ga s 124 c = (4 : Int32)) ∨ wt_ga z 124 c = (4 : Int32)) → wt_H (wp_md_together_B107 n x1 t.1 t.2.1 x4 K s) (fun q => wu_K0 z q.2) := fun x4 s rs e1 e2 e4 => by
    unfold wp_md_together_B107
    refine wt_H_it (fun u : Int32 × wt_St => 0 ≤ u.1.toInt ∧ wt_RI u.2 ∧ wt_fr (fun _ _ => False) (fun i => i = 124) s u.2 ∧ (∀ c : Nat, (c : Int) < u.1.toInt → c < 338 → wt_ga u.2 124 c = wt_ga z 124 c ∨ wt_ga z 124 c = (4 : Int32)) ∧ ∀ c : Nat, u.1.toInt ≤ (c : Int) → wt_ga u.2 124 c = wt_ga s 124 c) (fun K2 u J hK2 => ?_) n _ ⟨by show 0 ≤ ((0 : Int32)).toInt; omega, rs, wt_fr.rf, fun k hk => absurd (show (k : Int) < ((0 : Int32)).toInt from hk) (by omega), fun _ _ => rfl⟩
    obtain ⟨j0, jr, jf, j1, j2⟩ := J
    have eu := wt_tnI j0
    unfold wp_md_together_B110 wp_md_together_B163 wp_md_together_B164
    refine wt_H_if (fun c => ?_) (fun c => ?_)
    · have c' := wt_cle c
      have F : wu_K0 z u.2 := ⟨jr, fun j => (jf.2 111 (by decide) j).trans (e1 j), fun c => (jf.2 121 (by decide) c).trans (e2 c), fun c hc => j1 c (by omega) hc⟩
      exact wt_H_if (fun _ => hK _ F) (fun _ => hK _ F)
    · have c' := wt_ncle c
      have ei := wt_i1 (c := u.1) (by omega)
      have v := j2 (Int32.toNatClampNeg u.1) (by omega)
      unfold wp_md_together_B146
      have N : ∀ w : Int32, (w = wt_ga z 124 (Int32.toNatClampNeg u.1) ∨ wt_ga z 124 (Int32.toNatClampNeg u.1) = (4 : Int32)) → wt_H (K2 ((u.1 + (1 : Int32)), (wt_sa u.2 124 (Int32.toNatClampNeg u.1) w))) (fun q => wu_K0 z q.2) := fun w hw => by
        obtain ⟨s1, ε1⟩ : ∃ o : wt_St, o = wt_sa u.2 124 (Int32.toNatClampNeg u.1) w := ⟨_, rfl⟩
        rw [← ε1]
        refine hK2 _ ⟨by show 0 ≤ (u.1 + (1 : Int32)).toInt; omega, wt_RI_no jr ε1 124 125 (by decide +kernel) (by decide) (by decide), jf.sa ε1 rfl, fun c hc h3 => ?_, fun c hc => ?_⟩
        · have hc' : (c : Int) < (u.1 + (1 : Int32)).toInt := hc
          show wt_ga s1 124 c = wt_ga z 124 c ∨ wt_ga z 124 c = (4 : Int32)
          by_cases h : c = Int32.toNatClampNeg u.1
          · rw [h, wt_v_sa ε1]; exact hw
          · rw [wt_w_sa ε1 c h]; exact j1 c (by omega) h3
        · have hc' : (u.1 + (1 : Int32)).toInt ≤ (c : Int) := hc
          show wt_ga s1 124 c = wt_ga s 124 c
          rw [wt_w_sa ε1 c (by omega)]
          exact j2 c (by omega)
      have e := e4 (Int32.toNatClampNeg u.1) (by omega)
      refine wt_H_gd (fun _ => wt_H_if (fun d => wt_H_gd (fun _ => N _ ?_)) (fun d => wt_H_gd (fun _ => wt_H_gd (fun _ => N _ ?_))))
      · rw [v] at d
        rcases e with e | ⟨e, -⟩ | e
        · rw [d] at e
          exact Or.inr e.symm
        · exact Or.inl e.symm
        · exact Or.inr e
      · rw [v]
        rw [v] at d
        rcases e with e | ⟨-, e⟩ | e
        · exact Or.inl e
        · exact absurd e d
        · exact Or.inr e
  refine wt_H_it (fun u : Int32 × Int32 × wt_St => 0 ≤ u.2.1.toInt ∧ wt_RI u.2.2 ∧ (∀ j, wt_ga u.2.2 111 j = wt_ga z 111 j) ∧ (∀ c, wt_ga u.2.2 121 c = wt_ga z 121 c) ∧ ∀ c, c < 338 → wt_ga u.2.2 124 c = wt_ga z 124 c ∨ (wt_ga z 124 c = (-1 : Int32) ∧ wt_ga u.2.2 124 c = (4 : Int32)) ∨ wt_ga z 124 c = (4 : Int32)) (fun K2 u J hK2 => ?_) n _ ⟨by show 0 ≤ ((0 : Int32)).toInt; omega, I.1, I.2.1, I.2.2.1, fun c hc => (I.2.2.2 c hc).imp (fun h => h) (fun h => Or.inr h)⟩
  obtain ⟨j0, jr, j1, j2, j3⟩ := J
  have hz : 0 ≤ (wt_gf u.2.2 108 39).toInt ∧ (wt_gf u.2.2 108 39).toInt ≤ 8 := wt_Rf7 jr
  unfold wp_md_together_B61 wp_md_together_B101
  refine wt_H_if (fun _ => BACK _ _ jr j1 j2 j3) (fun c => wt_H_if (fun _ => BACK _ _ jr j1 j2 j3) (fun _ => ?_))
  have c' := wt_ncle c
  have ei := wt_i1 (c := u.2.1) (by omega)
  refine wt_H_if (fun _ => hK2 _ ⟨by show 0 ≤ (u.2.1 + (1 : Int32)).toInt; omega, jr, j1, j2, j3⟩) (fun _ => ?_)
  refine wt_H_bh (wq_md_needsText n hn u.2.1 u.2.2 jr j0 (by omega)).h (fun q18 h18 => ?_)
  obtain ⟨f18, r18, nb, -⟩ := h18
  have k4 : (4 : Int32).toInt = 4 := by decide
  refine wt_H_bh (wt_H_and (wh_takesR n hn r18) (wq_md_takes n hn x1 (4 : Int32) q18 r18 (by omega) (by omega) nb).h) (fun q19 h19 => ?_)
  obtain ⟨h19, f19, r19, -⟩ := h19
  have F := wt_fr.tr (F := fun i k => i = 108 ∧ k = 54) (A := fun i => i = 287 ∨ i = 124 ∨ i = 288) (wt_frw f18 (fun i k h => h.elim) (fun i h => Or.inl h)) f19 (fun i k h => h) (fun i h => Or.inr h)
  refine hK2 _ ⟨by show 0 ≤ (u.2.1 + (1 : Int32)).toInt; omega, r19, fun j => (F.2 111 (by decide) j).trans (j1 j), fun c => (F.2 121 (by decide) c).trans (j2 c), fun c hc => ?_⟩
  show wt_ga q19.2 124 c = wt_ga z 124 c ∨ (wt_ga z 124 c = (-1 : Int32) ∧ wt_ga q19.2 124 c = (4 : Int32)) ∨ wt_ga z 124 c = (4 : Int32)
  have a : wt_ga q18 124 c = wt_ga u.2.2 124 c := f18.2 124 (by decide) c
  rcases h19 with ⟨-, h19⟩ | ⟨-, h19, -⟩
  · rw [h19, a]
    exact j3 c hc
  · rcases h19 c with h | ⟨h1, h2, -⟩
    · rw [h, a]
      exact j3 c hc
    · rw [a] at h1
      rcases j3 c hc with j | ⟨j, -⟩ | j
      · exact Or.inr (Or.inl ⟨by rw [← j]; exact h1, h2⟩)
      · exact Or.inr (Or.inl ⟨j, h2⟩)
      · exact Or.inr (Or.inr j)
