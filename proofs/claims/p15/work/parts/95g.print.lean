/-- the least of what those have left of which P holds, or v -/
def wu_min (N : Nat) (P : Nat → Prop) (f : Nat → Int) (v r : Int) : Prop := (r = v ∨ ∃ c, c < N ∧ P c ∧ r = f c) ∧ r ≤ v ∧ ∀ c, c < N → P c → r ≤ f c
theorem wh_leastLeftOn (n : Nat) (hn : 4294967297 < n) {x : Int32} {s : wt_St} : wt_H (wp_pg_leastLeftOn n x s) (fun q => q.2 = s ∧ wu_min 312 (fun c => (wt_ga s 41 c).toInt = x.toInt) (fun c => (wt_ga s 40 c).toInt) 1000000 q.1.toInt) := by
  have k0 : (0 : Int32).toInt = 0 := by decide
  have kM : (1000000 : Int32).toInt = 1000000 := by decide
  have k312 : (312 : Int32).toInt = 312 := by decide
  unfold wp_pg_leastLeftOn
  refine wt_H_it (fun t : Int32 × Int32 × wt_St => t.2.2 = s ∧ 0 ≤ t.2.1.toInt ∧ t.2.1.toInt ≤ 312 ∧ wu_min (Int32.toNatClampNeg t.2.1) (fun c => (wt_ga s 41 c).toInt = x.toInt) (fun c => (wt_ga s 40 c).toInt) 1000000 t.1.toInt) (fun K t I hK => ?_) n _ ⟨rfl, by show 0 ≤ ((0 : Int32)).toInt; omega, by show ((0 : Int32)).toInt ≤ 312; omega, by show wu_min (Int32.toNatClampNeg (0 : Int32)) _ _ _ ((1000000 : Int32)).toInt; rw [wt_tn0, kM]; exact ⟨Or.inl rfl, Int.le_refl _, fun c hc => absurd hc (by omega)⟩⟩
  obtain ⟨i0, i1, i2, i3⟩ := I
  have et := wt_tnI i1
  unfold wp_pg_leastLeftOn_B5
  rw [i0]
  refine wt_H_if (fun c => ?_) (fun c => ?_)
  · have c' := wt_cle c
    have e : Int32.toNatClampNeg t.2.1 = 312 := by omega
    rw [e] at i3
    exact wt_H_some ⟨rfl, i3⟩
  · have c' := wt_ncle c
    have ei := wt_i1 (c := t.2.1) (by omega)
    have en : Int32.toNatClampNeg (t.2.1 + (1 : Int32)) = Int32.toNatClampNeg t.2.1 + 1 := by have := wt_tnI (x := t.2.1 + (1 : Int32)) (by omega); omega
    refine wt_H_bh (wh_look n hn (k := Int32.toNatClampNeg t.2.1) (by omega) (by rw [show wt_ln 41 = 312 from by decide]; omega)) (fun q2 h2 => ?_)
    subst h2
    dsimp only
    obtain ⟨j1, j2, j3⟩ := i3
    unfold wp_pg_leastLeftOn_B43
    refine wt_H_if (fun d => ?_) (fun d => ?_)
    · have d' := wt_ceq d
      refine wt_H_bh (wh_look n hn (k := Int32.toNatClampNeg t.2.1) (by omega) (by rw [show wt_ln 40 = 312 from by decide]; omega)) (fun q4 h4 => ?_)
      subst h4
      dsimp only
      refine hK _ ⟨rfl, by show 0 ≤ (t.2.1 + (1 : Int32)).toInt; omega, by show (t.2.1 + (1 : Int32)).toInt ≤ 312; omega, ?_⟩
      show wu_min (Int32.toNatClampNeg (t.2.1 + (1 : Int32))) _ _ _ (if wt_ga s 40 (Int32.toNatClampNeg t.2.1) < t.1 then wt_ga s 40 (Int32.toNatClampNeg t.2.1) else t.1).toInt
      rw [en]
      by_cases f : wt_ga s 40 (Int32.toNatClampNeg t.2.1) < t.1
      · have f' := wt_clt f
        rw [if_pos f]
        refine ⟨Or.inr ⟨Int32.toNatClampNeg t.2.1, by omega, d', rfl⟩, by omega, fun c hc hp => ?_⟩
        by_cases hq : c = Int32.toNatClampNeg t.2.1
        · rw [hq]; exact Int.le_refl _
        · have := j3 c (by omega) hp
          omega
      · have f' := wt_ncl f
        rw [if_neg f]
        refine ⟨j1.imp (fun h => h) (fun ⟨c, c1, c2, c3⟩ => ⟨c, by omega, c2, c3⟩), j2, fun c hc hp => ?_⟩
        by_cases hq : c = Int32.toNatClampNeg t.2.1
        · rw [hq]; exact f'
        · exact j3 c (by omega) hp
    · have d' := wt_nceq d
      refine hK _ ⟨rfl, by show 0 ≤ (t.2.1 + (1 : Int32)).toInt; omega, by show (t.2.1 + (1 : Int32)).toInt ≤ 312; omega, ?_⟩
      show wu_min (Int32.toNatClampNeg (t.2.1 + (1 : Int32))) _ _ _ t.1.toInt
      rw [en]
      refine ⟨j1.imp (fun h => h) (fun ⟨c, c1, c2, c3⟩ => ⟨c, by omega, c2, c3⟩), j2, fun c hc hp => ?_⟩
      by_cases hq : c = Int32.toNatClampNeg t.2.1
      · rw [hq] at hp; exact absurd hp d'
      · exact j3 c (by omega) hp
theorem wh_leastOf (n : Nat) {x : Int32} {g : Nat} {z : wt_St} (hx : x.toInt = (g : Int)) (hK : (wt_ga z 276 g).toInt ≤ 108) : wt_H (wp_md_leastOf n x z) (fun q => q.2 = z ∧ wu_min (Int32.toNatClampNeg (wt_ga z 276 g)) (fun _ => True) (fun k => (wt_ga z 121 (Int32.toNatClampNeg (wt_ga z (278 + g) k))).toInt) 400 q.1.toInt) := by
  have k0 : (0 : Int32).toInt = 0 := by decide
  have k4 : (400 : Int32).toInt = 400 := by decide
  have eg : Int32.toNatClampNeg x = g := wt_tnN hx
  unfold wp_md_leastOf
  refine wt_H_it (fun t : Int32 × Int32 × wt_St => t.2.2 = z ∧ 0 ≤ t.2.1.toInt ∧ (t.2.1.toInt ≤ (wt_ga z 276 g).toInt ∨ t.2.1.toInt = 0) ∧ wu_min (Int32.toNatClampNeg t.2.1) (fun _ => True) (fun k => (wt_ga z 121 (Int32.toNatClampNeg (wt_ga z (278 + g) k))).toInt) 400 t.1.toInt) (fun K t I hK => ?_) n _ ⟨rfl, by show 0 ≤ ((0 : Int32)).toInt; omega, Or.inr k0, by show wu_min (Int32.toNatClampNeg (0 : Int32)) _ _ _ ((400 : Int32)).toInt; rw [wt_tn0, k4]; exact ⟨Or.inl rfl, Int.le_refl _, fun c hc => absurd hc (by omega)⟩⟩
  obtain ⟨i0, i1, i2, i3⟩ := I
  have et := wt_tnI i1
  unfold wp_md_leastOf_B6 wp_md_leastOf_B50
  rw [i0, eg]
  refine wt_H_gd (fun _ => ?_)
  refine wt_H_if (fun c => ?_) (fun c => ?_)
  · have c' := wt_cle c
    have e : Int32.toNatClampNeg t.2.1 = Int32.toNatClampNeg (wt_ga z 276 g) := by
      rcases wt_tn (wt_ga z 276 g) with h | h
      · have : Int32.toNatClampNeg (wt_ga z 276 g) = 0 := by unfold Int32.toNatClampNeg; omega
        omega
      · omega
    rw [e] at i3
    exact wt_H_some ⟨rfl, i3⟩
  · have c' := wt_ncle c
    have ei := wt_i1 (c := t.2.1) (by omega)
    have en : Int32.toNatClampNeg (t.2.1 + (1 : Int32)) = Int32.toNatClampNeg t.2.1 + 1 := by have := wt_tnI (x := t.2.1 + (1 : Int32)) (by omega); omega
    refine wt_H_gd (fun _ => ?_)
    refine wt_H_gd (fun _ => ?_)
    refine wt_H_gd (fun _ => ?_)
    obtain ⟨j1, j2, j3⟩ := i3
    refine wt_H_if (fun d => ?_) (fun d => ?_)
    · have d' := wt_cle d
      refine hK _ ⟨rfl, by show 0 ≤ (t.2.1 + (1 : Int32)).toInt; omega, Or.inl (by show (t.2.1 + (1 : Int32)).toInt ≤ _; omega), ?_⟩
      show wu_min (Int32.toNatClampNeg (t.2.1 + (1 : Int32))) _ _ _ t.1.toInt
      rw [en]
      refine ⟨j1.imp (fun h => h) (fun ⟨c, c1, c2, c3⟩ => ⟨c, by omega, c2, c3⟩), j2, fun c hc hp => ?_⟩
      by_cases hq : c = Int32.toNatClampNeg t.2.1
      · rw [hq]; exact d'
      · exact j3 c (by omega) hp
    · have d' := wt_ncle d
      refine wt_H_gd (fun _ => ?_)
      refine wt_H_gd (fun _ => ?_)
      refine wt_H_gd (fun _ => ?_)
      refine hK _ ⟨rfl, by show 0 ≤ (t.2.1 + (1 : Int32)).toInt; omega, Or.inl (by show (t.2.1 + (1 : Int32)).toInt ≤ _; omega), ?_⟩
      show wu_min (Int32.toNatClampNeg (t.2.1 + (1 : Int32))) _ _ _ (wt_ga z 121 (Int32.toNatClampNeg (wt_ga z (278 + g) (Int32.toNatClampNeg t.2.1)))).toInt
      rw [en]
      refine ⟨Or.inr ⟨Int32.toNatClampNeg t.2.1, by omega, trivial, rfl⟩, by omega, fun c hc hp => ?_⟩
      by_cases hq : c = Int32.toNatClampNeg t.2.1
      · rw [hq]; exact Int.le_refl _
      · have := j3 c (by omega) hp
        omega
/-- prints go off the pieces of a page, on the one side -/
theorem wh_pressLoop (n : Nat) (hn : 4294967297 < n) {x1 x2 : Int32} {s : wt_St} : wt_H (wt_it (wp_pg_press_B16 n x1 x2) n ((0 : Int32), (0 : Int32), s)) (fun q => wt_fr (fun _ _ => False) (fun i => i = 40) s q.2 ∧ (∀ c, c < 312 → wt_ga q.2 40 c = if (wt_ga s 41 c).toInt = x1.toInt then (wt_ga s 40 c) - x2 else wt_ga s 40 c) ∧ q.1.toInt = wt_sum (fun c => if (wt_ga s 41 c).toInt = x1.toInt then (if (wt_ga s 40 c) - x2 = 0 then 1 else 0) else 0) 312) := by
  have k0 : (0 : Int32).toInt = 0 := by decide
  have k1 : (1 : Int32).toInt = 1 := by decide
  have k312 : (312 : Int32).toInt = 312 := by decide
  refine wt_H_it (fun t : Int32 × Int32 × wt_St => 0 ≤ t.2.1.toInt ∧ t.2.1.toInt ≤ 312 ∧ wt_fr (fun _ _ => False) (fun i => i = 40) s t.2.2 ∧ (∀ c : Nat, (c : Int) < t.2.1.toInt → wt_ga t.2.2 40 c = if (wt_ga s 41 c).toInt = x1.toInt then (wt_ga s 40 c) - x2 else wt_ga s 40 c) ∧ (∀ c : Nat, t.2.1.toInt ≤ (c : Int) → wt_ga t.2.2 40 c = wt_ga s 40 c) ∧ t.1.toInt = wt_sum (fun c => if (wt_ga s 41 c).toInt = x1.toInt then (if (wt_ga s 40 c) - x2 = 0 then 1 else 0) else 0) (Int32.toNatClampNeg t.2.1) ∧ 0 ≤ t.1.toInt ∧ t.1.toInt ≤ t.2.1.toInt) (fun K t I hK => ?_) n _ ⟨by show 0 ≤ ((0 : Int32)).toInt; omega, by show ((0 : Int32)).toInt ≤ 312; omega, wt_fr.rf, fun k hk => absurd (show (k : Int) < ((0 : Int32)).toInt from hk) (by omega), fun _ _ => rfl, by show ((0 : Int32)).toInt = wt_sum _ (Int32.toNatClampNeg (0 : Int32)); rw [wt_tn0]; exact k0, by show 0 ≤ ((0 : Int32)).toInt; omega, by show ((0 : Int32)).toInt ≤ ((0 : Int32)).toInt; omega⟩
  obtain ⟨i1, i2, f, i3, i4, i5, i6, i7⟩ := I
  have et := wt_tnI i1
  unfold wp_pg_press_B16
  refine wt_H_if (fun c => ?_) (fun c => ?_)
  · have c' := wt_cle c
    have e : Int32.toNatClampNeg t.2.1 = 312 := by omega
    rw [e] at i5
    exact wt_H_some ⟨f, fun c hc => i3 c (by omega), i5⟩
  · have c' := wt_ncle c
    have ei := wt_i1 (c := t.2.1) (by omega)
    have en : Int32.toNatClampNeg (t.2.1 + (1 : Int32)) = Int32.toNatClampNeg t.2.1 + 1 := by have := wt_tnI (x := t.2.1 + (1 : Int32)) (by omega); omega
    have B : ∀ (y : Int32) (q : wt_St), y.toInt = (if (wt_ga s 41 (Int32.toNatClampNeg t.2.1)).toInt = x1.toInt then (if (wt_ga s 40 (Int32.toNatClampNeg t.2.1)) - x2 = 0 then 1 else 0) else 0) → wt_fr (fun _ _ => False) (fun i => i = 40) s q → (∀ c, c ≠ Int32.toNatClampNeg t.2.1 → wt_ga q 40 c = wt_ga t.2.2 40 c) → wt_ga q 40 (Int32.toNatClampNeg t.2.1) = (if (wt_ga s 41 (Int32.toNatClampNeg t.2.1)).toInt = x1.toInt then (wt_ga s 40 (Int32.toNatClampNeg t.2.1)) - x2 else wt_ga s 40 (Int32.toNatClampNeg t.2.1)) → wt_H (K ((t.1 + y), (t.2.1 + (1 : Int32)), q)) (fun q => wt_fr (fun _ _ => False) (fun i => i = 40) s q.2 ∧ (∀ c, c < 312 → wt_ga q.2 40 c = if (wt_ga s 41 c).toInt = x1.toInt then (wt_ga s 40 c) - x2 else wt_ga s 40 c) ∧ q.1.toInt = wt_sum (fun c => if (wt_ga s 41 c).toInt = x1.toInt then (if (wt_ga s 40 c) - x2 = 0 then 1 else 0) else 0) 312) := by
      intro y q hy fq oq vq
      have hy2 : 0 ≤ y.toInt ∧ y.toInt ≤ 1 := by
        rw [hy]
        split
        · split <;> omega
        · omega
      have ea := wt_addE (x := t.1) (y := y) (by omega) (by omega)
      refine hK _ ⟨by show 0 ≤ (t.2.1 + (1 : Int32)).toInt; omega, by show (t.2.1 + (1 : Int32)).toInt ≤ 312; omega, fq, fun c hc => ?_, fun c hc => ?_, ?_, by show 0 ≤ (t.1 + y).toInt; omega, by show (t.1 + y).toInt ≤ (t.2.1 + (1 : Int32)).toInt; omega⟩
      · have hc' : (c : Int) < (t.2.1 + (1 : Int32)).toInt := hc
        by_cases hq : c = Int32.toNatClampNeg t.2.1
        · rw [hq]; exact vq
        · show wt_ga q 40 c = _
          rw [oq c hq]; exact i3 c (by omega)
      · have hc' : (t.2.1 + (1 : Int32)).toInt ≤ (c : Int) := hc
        show wt_ga q 40 c = _
        rw [oq c (by omega)]; exact i4 c (by omega)
      · show (t.1 + y).toInt = wt_sum _ (Int32.toNatClampNeg (t.2.1 + (1 : Int32)))
        rw [en]
        show _ = wt_sum _ (Int32.toNatClampNeg t.2.1) + (if (wt_ga s 41 (Int32.toNatClampNeg t.2.1)).toInt = x1.toInt then (if (wt_ga s 40 (Int32.toNatClampNeg t.2.1)) - x2 = 0 then 1 else 0) else 0)
        omega
    refine wt_H_bh (wh_look n hn (k := Int32.toNatClampNeg t.2.1) (by omega) (by rw [show wt_ln 41 = 312 from by decide]; omega)) (fun q4 h4 => ?_)
    subst h4
    dsimp only
    rw [f.2 41 (by decide)]
    have e40 := i4 (Int32.toNatClampNeg t.2.1) (by omega)
    refine wt_H_if (fun d => ?_) (fun d => ?_)
    · have d' := wt_ceq d
      refine wt_H_bh (wh_look n hn (k := Int32.toNatClampNeg t.2.1) (by omega) (by rw [show wt_ln 40 = 312 from by decide]; omega)) (fun q6 h6 => ?_)
      subst h6
      dsimp only
      rw [e40]
      refine wt_H_bh (wh_put n (k := Int32.toNatClampNeg t.2.1) (by omega) (by rw [show wt_ln 40 = 312 from by decide]; omega)) (fun q7 ε => ?_)
      unfold wp_pg_press_B81 wp_pg_press_B83
      refine wt_H_if (fun h => B _ _ ?_ (f.sa ε rfl) (fun c hc => wt_w_sa ε c hc) ?_) (fun h => B _ _ ?_ (f.sa ε rfl) (fun c hc => wt_w_sa ε c hc) ?_)
      · rw [if_pos d', if_pos h, k1]
      · rw [if_pos d', wt_v_sa ε]
      · rw [if_pos d', if_neg h, k0]
      · rw [if_pos d', wt_v_sa ε]
    · have d' := wt_nceq d
      unfold wp_pg_press_B83
      have R := B 0 t.2.2 (by rw [if_neg d', k0]) f (fun _ _ => rfl) (by rw [if_neg d']; exact e40)
      rw [show t.1 + (0 : Int32) = t.1 from wt_eqI (by have := wt_addE (x := t.1) (y := (0 : Int32)) (by omega) (by omega); omega)] at R
      exact R
/-- and on the other: no piece stands twice in the list -/
theorem wh_printLoop (n : Nat) {x1 x2 : Int32} {g : Nat} {z : wt_St} (hx : x1.toInt = (g : Int)) (hg : g < 4) (hK : 0 ≤ (wt_ga z 276 g).toInt ∧ (wt_ga z 276 g).toInt ≤ 108) (hd : ∀ k k' : Nat, k' < k → (k : Int) < (wt_ga z 276 g).toInt → Int32.toNatClampNeg (wt_ga z (278 + g) k') ≠ Int32.toNatClampNeg (wt_ga z (278 + g) k)) : wt_H (wt_it (wp_md_print_B64 n x1 x2) n ((0 : Int32), (0 : Int32), z)) (fun y => wt_fr (fun _ _ => False) (fun i => i = 121) z y.2 ∧ (∀ k : Nat, (k : Int) < (wt_ga z 276 g).toInt → wt_ga y.2 121 (Int32.toNatClampNeg (wt_ga z (278 + g) k)) = (wt_ga z 121 (Int32.toNatClampNeg (wt_ga z (278 + g) k))) - x2) ∧ (∀ c, (∀ k : Nat, (k : Int) < (wt_ga z 276 g).toInt → Int32.toNatClampNeg (wt_ga z (278 + g) k) ≠ c) → wt_ga y.2 121 c = wt_ga z 121 c) ∧ y.1.toInt = wt_sum (fun k => if (wt_ga z 121 (Int32.toNatClampNeg (wt_ga z (278 + g) k))) - x2 = 0 then 1 else 0) (Int32.toNatClampNeg (wt_ga z 276 g))) := by
  have k0 : (0 : Int32).toInt = 0 := by decide
  have k1 : (1 : Int32).toInt = 1 := by decide
  have eg : Int32.toNatClampNeg x1 = g := wt_tnN hx
  have eKK := wt_tnI hK.1
  refine wt_H_it (fun t : Int32 × Int32 × wt_St => 0 ≤ t.2.1.toInt ∧ t.2.1.toInt ≤ (wt_ga z 276 g).toInt ∧ wt_fr (fun _ _ => False) (fun i => i = 121) z t.2.2 ∧ (∀ k : Nat, (k : Int) < t.2.1.toInt → wt_ga t.2.2 121 (Int32.toNatClampNeg (wt_ga z (278 + g) k)) = (wt_ga z 121 (Int32.toNatClampNeg (wt_ga z (278 + g) k))) - x2) ∧ (∀ c, (∀ k : Nat, (k : Int) < t.2.1.toInt → Int32.toNatClampNeg (wt_ga z (278 + g) k) ≠ c) → wt_ga t.2.2 121 c = wt_ga z 121 c) ∧ t.1.toInt = wt_sum (fun k => if (wt_ga z 121 (Int32.toNatClampNeg (wt_ga z (278 + g) k))) - x2 = 0 then 1 else 0) (Int32.toNatClampNeg t.2.1) ∧ 0 ≤ t.1.toInt ∧ t.1.toInt ≤ t.2.1.toInt) (fun K t I hKc => ?_) n _ ⟨by show 0 ≤ ((0 : Int32)).toInt; omega, by show ((0 : Int32)).toInt ≤ _; omega, wt_fr.rf, fun k hk => absurd (show (k : Int) < ((0 : Int32)).toInt from hk) (by omega), fun _ _ => rfl, by show ((0 : Int32)).toInt = wt_sum _ (Int32.toNatClampNeg (0 : Int32)); rw [wt_tn0]; exact k0, by show 0 ≤ ((0 : Int32)).toInt; omega, by show ((0 : Int32)).toInt ≤ ((0 : Int32)).toInt; omega⟩
  obtain ⟨i1, i2, f, i3, i4, i5, i6, i7⟩ := I
  have et := wt_tnI i1
  unfold wp_md_print_B64 wp_md_print_B116
  rw [eg, f.2 276 (by decide), f.2 (278 + g) (by (try dsimp only); omega)]
  refine wt_H_gd (fun _ => ?_)
  refine wt_H_if (fun c => ?_) (fun c => ?_)
  · have c' := wt_cle c
    have e : Int32.toNatClampNeg t.2.1 = Int32.toNatClampNeg (wt_ga z 276 g) := by omega
    rw [e] at i5
    exact wt_H_some ⟨f, fun k hk => i3 k (by omega), fun c hc => i4 c (fun k hk => hc k (by omega)), i5⟩
  · have c' := wt_ncle c
    have ei := wt_i1 (c := t.2.1) (by omega)
    have en : Int32.toNatClampNeg (t.2.1 + (1 : Int32)) = Int32.toNatClampNeg t.2.1 + 1 := by have := wt_tnI (x := t.2.1 + (1 : Int32)) (by omega); omega
    have e121 := i4 (Int32.toNatClampNeg (wt_ga z (278 + g) (Int32.toNatClampNeg t.2.1))) (fun k hk => hd _ k (by omega) (by omega))
    rw [e121]
    refine wt_H_gd (fun _ => ?_)
    refine wt_H_gd (fun _ => ?_)
    refine wt_H_gd (fun _ => ?_)
    refine wt_H_gd (fun _ => ?_)
    refine wt_H_gd (fun _ => ?_)
    refine wt_H_gd (fun _ => ?_)
    obtain ⟨s1, ε⟩ : ∃ o : wt_St, o = wt_sa t.2.2 121 (Int32.toNatClampNeg (wt_ga z (278 + g) (Int32.toNatClampNeg t.2.1))) ((wt_ga z 121 (Int32.toNatClampNeg (wt_ga z (278 + g) (Int32.toNatClampNeg t.2.1)))) - x2) := ⟨_, rfl⟩
    rw [← ε]
    have f1 := wt_fr_sa ε
    have e278 : wt_ga s1 (278 + g) (Int32.toNatClampNeg t.2.1) = wt_ga z (278 + g) (Int32.toNatClampNeg t.2.1) := by rw [f1.2 (278 + g) (by (try dsimp only); omega)]; exact f.2 (278 + g) (by (try dsimp only); omega) _
    rw [e278, wt_v_sa ε]
    refine wt_H_gd (fun _ => ?_)
    have B : ∀ y : Int32, y.toInt = (if (wt_ga z 121 (Int32.toNatClampNeg (wt_ga z (278 + g) (Int32.toNatClampNeg t.2.1)))) - x2 = 0 then 1 else 0) → wt_H (K ((t.1 + y), (t.2.1 + (1 : Int32)), s1)) (fun y => wt_fr (fun _ _ => False) (fun i => i = 121) z y.2 ∧ (∀ k : Nat, (k : Int) < (wt_ga z 276 g).toInt → wt_ga y.2 121 (Int32.toNatClampNeg (wt_ga z (278 + g) k)) = (wt_ga z 121 (Int32.toNatClampNeg (wt_ga z (278 + g) k))) - x2) ∧ (∀ c, (∀ k : Nat, (k : Int) < (wt_ga z 276 g).toInt → Int32.toNatClampNeg (wt_ga z (278 + g) k) ≠ c) → wt_ga y.2 121 c = wt_ga z 121 c) ∧ y.1.toInt = wt_sum (fun k => if (wt_ga z 121 (Int32.toNatClampNeg (wt_ga z (278 + g) k))) - x2 = 0 then 1 else 0) (Int32.toNatClampNeg (wt_ga z 276 g))) := by
      intro y hy
      have hy2 : 0 ≤ y.toInt ∧ y.toInt ≤ 1 := by
        rw [hy]
        split <;> omega
      have ea := wt_addE (x := t.1) (y := y) (by omega) (by omega)
      refine hKc _ ⟨by show 0 ≤ (t.2.1 + (1 : Int32)).toInt; omega, by show (t.2.1 + (1 : Int32)).toInt ≤ _; omega, f.sa ε rfl, fun k hk => ?_, fun c hc => ?_, ?_, by show 0 ≤ (t.1 + y).toInt; omega, by show (t.1 + y).toInt ≤ (t.2.1 + (1 : Int32)).toInt; omega⟩
      · have hk' : (k : Int) < (t.2.1 + (1 : Int32)).toInt := hk
        show wt_ga s1 121 _ = _
        by_cases hq : k = Int32.toNatClampNeg t.2.1
        · rw [hq]; exact wt_v_sa ε
        · rw [wt_w_sa ε _ (hd _ k (by omega) (by omega))]; exact i3 k (by omega)
      · have hc' : ∀ k : Nat, (k : Int) < (t.2.1 + (1 : Int32)).toInt → Int32.toNatClampNeg (wt_ga z (278 + g) k) ≠ c := hc
        show wt_ga s1 121 c = _
        rw [wt_w_sa ε c (fun h => hc' (Int32.toNatClampNeg t.2.1) (by omega) h.symm)]
        exact i4 c (fun k hk => hc' k (by omega))
      · show (t.1 + y).toInt = wt_sum _ (Int32.toNatClampNeg (t.2.1 + (1 : Int32)))
        rw [en]
        show _ = wt_sum _ (Int32.toNatClampNeg t.2.1) + (if (wt_ga z 121 (Int32.toNatClampNeg (wt_ga z (278 + g) (Int32.toNatClampNeg t.2.1)))) - x2 = 0 then 1 else 0)
        omega
    refine wt_H_if (fun h => B _ ?_) (fun h => B _ ?_)
    · rw [if_pos h, k1]
    · rw [if_neg h, k0]
