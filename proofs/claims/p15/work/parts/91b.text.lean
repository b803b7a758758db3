/-! a text, on both sides -/
theorem wh_find9 (n : Nat) (hn : 4294967297 < n) {t0 a1 N : Nat} {x2 : Int32} {σ : wt_St} (hl2 : wt_ln (t0 + 2) = 60) (hN : (wt_gf σ t0 6).toInt = (N : Int)) (hN6 : N ≤ 60) (hne : ∀ w, w < N → wt_ga σ (t0 + 2) w ≠ x2) : wt_H (wp_tg_find n t0 a1 x2 σ) (fun q => q = ((-1 : Int32), σ)) := by
  have k0 : (0 : Int32).toInt = 0 := by decide
  unfold wp_tg_find
  refine wt_H_it (fun s : Int32 × wt_St => s.2 = σ ∧ 0 ≤ s.1.toInt) (fun K s I hK => ?_) n _ ⟨rfl, by show 0 ≤ ((0 : Int32)).toInt; omega⟩
  obtain ⟨i0, i1⟩ := I
  have es := wt_tnI i1
  unfold wp_tg_find_B2
  rw [i0]
  refine wt_H_if (fun c => wt_H_some rfl) (fun c => ?_)
  have c' := wt_ncle c
  have ei := wt_i1 (c := s.1) (by omega)
  refine wt_H_bh (wh_look n hn (k := Int32.toNatClampNeg s.1) (by omega) (by omega)) (fun q hq => ?_)
  subst hq
  dsimp only
  rw [if_neg (hne _ (by omega))]
  unfold wp_tg_find_B34
  exact hK _ ⟨rfl, by show 0 ≤ (s.1 + (1 : Int32)).toInt; omega⟩
theorem wh_wordOf9 (n : Nat) {a3 N : Nat} {x1 x4 : Int32} {σ : wt_St} (h4 : x4.toInt = (N : Int)) (hN : N ≤ 60) (hne : ∀ w, w < N → wt_ga σ a3 w ≠ x1) : wt_H (wp_md_wordOf_192 n a3 x1 x4 σ) (fun q => q = ((-1 : Int32), σ)) := by
  have k0 : (0 : Int32).toInt = 0 := by decide
  unfold wp_md_wordOf_192
  refine wt_H_it (fun s : Int32 × wt_St => s.2 = σ ∧ 0 ≤ s.1.toInt) (fun K s I hK => ?_) n _ ⟨rfl, by show 0 ≤ ((0 : Int32)).toInt; omega⟩
  obtain ⟨i0, i1⟩ := I
  have es := wt_tnI i1
  unfold wp_md_wordOf_192_B3
  rw [i0]
  refine wt_H_if (fun c => wt_H_some rfl) (fun c => ?_)
  have c' := wt_ncle c
  have ei := wt_i1 (c := s.1) (by omega)
  refine wt_H_gd (fun _ => ?_)
  rw [if_neg (hne _ (by omega))]
  unfold wp_md_wordOf_192_B23
  refine wt_H_it (fun t : Int32 × Int32 × wt_St => t.1 = 0 ∧ t.2.2 = σ) (fun K2 t J hK2 => ?_) n _ ⟨rfl, rfl⟩
  obtain ⟨j0, j1⟩ := J
  have E : wt_H (wp_md_wordOf_192_B76 n a3 x1 x4 s.1 t.1 K σ) (fun q => q = ((-1 : Int32), σ)) := by
    unfold wp_md_wordOf_192_B76
    rw [if_pos j0]
    exact hK _ ⟨rfl, by show 0 ≤ (s.1 + (1 : Int32)).toInt; omega⟩
  unfold wp_md_wordOf_192_B28
  rw [j1]
  exact wt_H_if (fun _ => E) (fun _ => by rw [if_pos j0]; exact E)
/-- the letters of a word are counted into a row of 26 -/
theorem wh_countInto (n : Nat) (hn : 4294967297 < n) {t0 a2 w m : Nat} {x1 : Int32} {σ : wt_St} {c : Nat} (hl : wt_ln (t0 + 1) = 540) (hl2 : wt_ln (t0 + 2) = 60) (ha : wt_ln a2 = 26) (h12 : a2 ≠ t0 + 1) (h22 : a2 ≠ t0 + 2) (hw : x1.toInt = (w : Int)) (h6 : w < 60) (hm : (wt_ga σ (t0 + 2) w).toInt = (m : Int)) (hm9 : m ≤ 9) (hL : ∀ k, k < m → 0 ≤ (wt_ga σ (t0 + 1) (9 * w + k)).toInt ∧ (wt_ga σ (t0 + 1) (9 * w + k)).toInt ≤ 25) (hc : ∀ l, l < 26 → 0 ≤ (wt_ga σ a2 l).toInt ∧ (wt_ga σ a2 l).toInt ≤ (c : Int)) (hc2 : c ≤ 1000) : wt_H (wp_tg_countInto n t0 a2 x1 σ) (fun q => wt_fr (fun _ _ => False) (fun i => i = a2) σ q ∧ ∀ l, l < 26 → (wt_ga q a2 l).toInt = (wt_ga σ a2 l).toInt + wt_ct (fun k => (wt_ga σ (t0 + 1) (9 * w + k)).toInt) (l : Int) m) := by
  have k0 : (0 : Int32).toInt = 0 := by decide
  unfold wp_tg_countInto
  refine wt_H_bh (wh_look n hn (k := w) hw (by omega)) (fun q hq => ?_)
  subst hq
  dsimp only
  refine wt_H_it (fun s : Int32 × wt_St => 0 ≤ s.1.toInt ∧ s.1.toInt ≤ (m : Int) ∧ wt_fr (fun _ _ => False) (fun i => i = a2) σ s.2 ∧ ∀ l, l < 26 → (wt_ga s.2 a2 l).toInt = (wt_ga σ a2 l).toInt + wt_ct (fun k => (wt_ga σ (t0 + 1) (9 * w + k)).toInt) (l : Int) (Int32.toNatClampNeg s.1)) (fun K s I hK => ?_) n _ ⟨by show 0 ≤ ((0 : Int32)).toInt; omega, by show ((0 : Int32)).toInt ≤ _; omega, wt_fr.rf, fun l hl => by show (wt_ga σ a2 l).toInt = (wt_ga σ a2 l).toInt + wt_ct _ _ (Int32.toNatClampNeg (0 : Int32)); rw [wt_tn0]; show (wt_ga σ a2 l).toInt = (wt_ga σ a2 l).toInt + 0; omega⟩
  obtain ⟨i0, i1, f, i2⟩ := I
  have es := wt_tnI i0
  unfold wp_tg_countInto_B12
  refine wt_H_if (fun d => ?_) (fun d => ?_)
  · have d' := wt_cle d
    have e : Int32.toNatClampNeg s.1 = m := by omega
    rw [e] at i2
    exact wt_H_some ⟨f, i2⟩
  · have d' := wt_ncle d
    have ei := wt_i1 (c := s.1) (by omega)
    have hlk := hL (Int32.toNatClampNeg s.1) (by omega)
    refine wt_H_bh (wh_letterAt n hn hl hw h6 (k := Int32.toNatClampNeg s.1) (by omega) (by omega)) (fun q hq => ?_)
    subst hq
    dsimp only
    rw [f.2 (t0 + 1) (fun h => h12 h.symm)]
    have et := wt_tnI hlk.1
    have e2 := i2 (Int32.toNatClampNeg (wt_ga σ (t0 + 1) (9 * w + Int32.toNatClampNeg s.1))) (by omega)
    have hcl := hc (Int32.toNatClampNeg (wt_ga σ (t0 + 1) (9 * w + Int32.toNatClampNeg s.1))) (by omega)
    have hbd := wt_ct_bd (fun k => (wt_ga σ (t0 + 1) (9 * w + k)).toInt) ((Int32.toNatClampNeg (wt_ga σ (t0 + 1) (9 * w + Int32.toNatClampNeg s.1)) : Nat) : Int) (Int32.toNatClampNeg s.1)
    refine wt_H_bh (wh_look n hn (k := Int32.toNatClampNeg (wt_ga σ (t0 + 1) (9 * w + Int32.toNatClampNeg s.1))) (by omega) (by omega)) (fun q hq => ?_)
    subst hq
    dsimp only
    have ep := wt_i1 (c := wt_ga s.2 a2 (Int32.toNatClampNeg (wt_ga σ (t0 + 1) (9 * w + Int32.toNatClampNeg s.1)))) (by omega)
    refine wt_H_bh (wh_put n (k := Int32.toNatClampNeg (wt_ga σ (t0 + 1) (9 * w + Int32.toNatClampNeg s.1))) (by omega) (by omega)) (fun q ε => ?_)
    refine hK _ ⟨by show 0 ≤ (s.1 + (1 : Int32)).toInt; omega, by show (s.1 + (1 : Int32)).toInt ≤ _; omega, f.sa ε rfl, fun l hl => ?_⟩
    show (wt_ga q a2 l).toInt = _ + wt_ct _ _ (Int32.toNatClampNeg (s.1 + (1 : Int32)))
    rw [show Int32.toNatClampNeg (s.1 + (1 : Int32)) = Int32.toNatClampNeg s.1 + 1 by have := wt_tnI (x := s.1 + (1 : Int32)) (by omega); omega]
    show _ = _ + (wt_ct (fun k => (wt_ga σ (t0 + 1) (9 * w + k)).toInt) (l : Int) (Int32.toNatClampNeg s.1) + if (wt_ga σ (t0 + 1) (9 * w + Int32.toNatClampNeg s.1)).toInt = (l : Int) then 1 else 0)
    by_cases hq : l = Int32.toNatClampNeg (wt_ga σ (t0 + 1) (9 * w + Int32.toNatClampNeg s.1))
    · rw [if_pos (by omega), hq, wt_v_sa ε]
      omega
    · rw [if_neg (by omega), wt_w_sa ε l hq, i2 l hl]
      omega
theorem wt_nw_tt {s z : wt_St} {W w m : Nat} {l : Int} (h : wt_tt 20 126 128 130 193 W s z) (hw : w < W) (hm : (wt_ga s 22 w).toInt = (m : Int)) : wt_ct (fun k => (wt_ga s 21 (9 * w + k)).toInt) l m = wt_nw z w l := by
  obtain ⟨a, -, -, -, -, e⟩ := h w hw
  have a' : wt_ga s 22 w = wt_ga z 126 w := a
  unfold wt_nw
  rw [← a', wt_tnN hm]
  exact wt_ct_congr m (fun k hk => by
    have e' := (e k (by show (k : Int) < (wt_ga s 22 w).toInt; omega)).1
    show (wt_ga s 21 (9 * w + k)).toInt = (wt_ga z (193 + w) k).toInt
    rw [show wt_ga s 21 (9 * w + k) = wt_ga z (193 + w) k from e'])
/-- i words of a text are read -/
def wt_xr (T : Nat) (s0 z0 : wt_St) (i : Nat) (s z : wt_St) : Prop := (wt_gf s 34 4).toInt = (T : Int) ∧ (wt_gf z 108 39).toInt = (T : Int) ∧ T < 8 ∧ wt_TO s z ∧ (∀ j, j < i → wt_ga s 35 (12 * T + j) = wt_ga z 274 j ∧ 0 ≤ (wt_ga s 35 (12 * T + j)).toInt ∧ (wt_ga s 35 (12 * T + j)).toInt < (wt_gf z 108 28).toInt) ∧ wt_gf s 1 7 = wt_gf z 108 6 ∧ wt_fr (fun i k => i = 1 ∧ 2 ≤ k) (fun i => i = 3 ∨ i = 35) s0 s ∧ (∀ j, j < 12 * T → wt_ga s 35 j = wt_ga s0 35 j) ∧ wt_fr (fun i k => i = 108 ∧ 3 ≤ k ∧ k < 8) (fun i => i = 274) z0 z
theorem wt_xr_fr {T i : Nat} {s0 z0 s s' z z' : wt_St} {F F' : Nat → Nat → Prop} {A A' : Nat → Prop} (h : wt_xr T s0 z0 i s z) (f : wt_fr F A s s') (g : wt_fr F' A' z z') (hF : ∀ i k, F i k → i = 1 ∧ 2 ≤ k ∧ k ≠ 7) (hA : ∀ i, A i → i = 3) (hF' : ∀ i k, F' i k → i = 108 ∧ 4 ≤ k ∧ k < 6) (hA' : ∀ i, ¬ A' i) : wt_xr T s0 z0 i s' z' := by
  obtain ⟨a, b, c, d, e, p, fs, o, gz⟩ := h
  have nA : ∀ i, i ≠ 3 → ¬ A i := fun i hi h => hi (hA i h)
  have nF : ∀ i k, i ≠ 1 → ¬ F i k := fun i k hi h => hi (hF i k h).1
  have nF' : ∀ k, 6 ≤ k → ¬ F' 108 k := fun k hk h => by have := (hF' 108 k h).2; omega
  refine ⟨by rw [f.1 34 4 (nF _ _ (by decide))]; exact a, by rw [g.1 108 39 (nF' _ (by omega))]; exact b, c, wt_TO_fr d f g ⟨nF _ _ (by decide), nF _ _ (by decide)⟩ (fun i p q => nA _ (by omega)) ⟨nF' _ (by omega), nF' _ (by omega)⟩ (fun i _ => hA' i), fun j hj => ?_, ?_, wt_fr.tr fs f (fun i k h => ⟨(hF i k h).1, (hF i k h).2.1⟩) (fun i h => Or.inl (hA i h)), fun j hj => ?_, wt_fr.tr gz g (fun i k h => by have := hF' i k h; (try dsimp only); omega) (fun i h => absurd h (hA' i))⟩
  · rw [f.2 35 (nA _ (by decide)), g.2 274 (hA' _), g.1 108 28 (nF' _ (by omega))]; exact e j hj
  · rw [f.1 1 7 (fun h => (hF 1 7 h).2.2 rfl), g.1 108 6 (nF' _ (by omega))]; exact p
  · rw [f.2 35 (nA _ (by decide))]; exact o j hj
set_option maxRecDepth 100000 in
set_option maxHeartbeats 4000000 in
/-- the class closes a text: what it needs of each letter -/
theorem wh_close (n : Nat) (hn : 4294967297 < n) {s z : wt_St} {T m : Nat} {x2 : Int32} (h2 : x2.toInt = (m : Int)) (hm : m ≤ 12) (hT : (wt_gf s 34 4).toInt = (T : Int)) (hT8 : T < 8) (to : wt_TO s z) (hw : ∀ j, j < m → 0 ≤ (wt_ga s 35 (12 * T + j)).toInt ∧ (wt_ga s 35 (12 * T + j)).toInt < (wt_gf z 108 28).toInt) : wt_H (wp_tx_close n 20 x2 s) (fun q => q.1 = 1 ∧ wt_fr (fun i k => i = 34 ∧ k = 4) (fun i => i = 36 ∨ i = 37 ∨ i = 38) s q.2 ∧ (wt_gf q.2 34 4).toInt = ((T + 1 : Nat) : Int) ∧ wt_ga q.2 36 T = x2 ∧ (∀ t, t ≠ T → wt_ga q.2 36 t = wt_ga s 36 t) ∧ (∀ j, j < 26 * T → wt_ga q.2 37 j = wt_ga s 37 j) ∧ ∀ l, l < 26 → (wt_ga q.2 37 (26 * T + l)).toInt = wt_sum (fun k => wt_nw z (Int32.toNatClampNeg (wt_ga s 35 (12 * T + k))) (l : Int)) m) := by
  have k0 : (0 : Int32).toInt = 0 := by decide
  have k12 : (12 : Int32).toInt = 12 := by decide
  have k26 : (26 : Int32).toInt = 26 := by decide
  obtain ⟨W, G, ⟨A1, A2, A3⟩, B, tt, gs⟩ := to
  have l38 : wt_ln 38 = 26 := by decide
  unfold wp_tx_close
  refine wt_H_bh (wh_fillRow n (a := 38)) (fun q1 h1 => ?_)
  obtain ⟨f1, c1⟩ := h1
  rw [l38] at c1
  refine wt_H_it (fun u : Int32 × wt_St => 0 ≤ u.1.toInt ∧ u.1.toInt ≤ (m : Int) ∧ wt_fr (fun _ _ => False) (fun i => i = 38) s u.2 ∧ ∀ l, l < 26 → (wt_ga u.2 38 l).toInt = wt_sum (fun k => wt_nw z (Int32.toNatClampNeg (wt_ga s 35 (12 * T + k))) (l : Int)) (Int32.toNatClampNeg u.1) ∧ 0 ≤ (wt_ga u.2 38 l).toInt ∧ (wt_ga u.2 38 l).toInt ≤ 9 * u.1.toInt) (fun K u I hK => ?_) n _ ⟨by show 0 ≤ ((0 : Int32)).toInt; omega, by show ((0 : Int32)).toInt ≤ _; omega, f1, fun l hl => by show (wt_ga q1 38 l).toInt = wt_sum _ (Int32.toNatClampNeg (0 : Int32)) ∧ 0 ≤ (wt_ga q1 38 l).toInt ∧ (wt_ga q1 38 l).toInt ≤ 9 * ((0 : Int32)).toInt; rw [wt_tn0, c1 l hl]; show ((0 : Int32)).toInt = 0 ∧ _; omega⟩
  obtain ⟨i0, i1, fu, i2⟩ := I
  have eu := wt_tnI i0
  have u34 : wt_gf u.2 34 4 = wt_gf s 34 4 := fu.1 34 4 (fun h => h)
  unfold wp_tx_close_B10
  refine wt_H_if (fun d => ?_) (fun d => ?_)
  · have d' := wt_cle d
    have em : Int32.toNatClampNeg u.1 = m := by omega
    rw [em] at i2
    refine wt_H_it (fun v : Int32 × wt_St => 0 ≤ v.1.toInt ∧ wt_fr (fun _ _ => False) (fun i => i = 37) u.2 v.2 ∧ (∀ j, j < 26 * T → wt_ga v.2 37 j = wt_ga s 37 j) ∧ ∀ l : Nat, (l : Int) < v.1.toInt → wt_ga v.2 37 (26 * T + l) = wt_ga u.2 38 l) (fun K v J hK => ?_) n _ ⟨by show 0 ≤ ((0 : Int32)).toInt; omega, wt_fr.rf, fun j _ => fu.2 37 (by decide) j, fun l hl => absurd (show (l : Int) < ((0 : Int32)).toInt from hl) (by omega)⟩
    obtain ⟨j0, fv, jo, j1⟩ := J
    have ev := wt_tnI j0
    have v34 : wt_gf v.2 34 4 = wt_gf s 34 4 := (fv.1 34 4 (fun h => h)).trans u34
    unfold wp_tx_close_B47
    rw [v34]
    refine wt_H_if (fun g => ?_) (fun g => ?_)
    · have g' := wt_cle g
      refine wt_H_bh (wh_put n (k := T) hT (by rw [show wt_ln 36 = 8 from by decide]; exact hT8)) (fun q4 ε4 => ?_)
      have f4 := wt_fr_sa ε4
      have e34 : wt_gf q4 34 4 = wt_gf s 34 4 := (f4.1 34 4 (fun h => h)).trans v34
      rw [e34]
      obtain ⟨q5, ε5⟩ : ∃ o : wt_St, o = wt_sf q4 34 4 ((wt_gf s 34 4) + (1 : Int32)) := ⟨_, rfl⟩
      rw [← ε5]
      have f5 := wt_fr_sf ε5
      have e1 := wt_i1 (c := wt_gf s 34 4) (by omega)
      refine wt_H_some ⟨rfl, (((wt_frw fu (fun i k h => h.elim) (fun i h => by (try dsimp only at h); omega)).tr fv (fun i k h => h.elim) (fun i h => by (try dsimp only at h); omega)).sa ε4 (by first | decide | ((try dsimp only); omega))).sf ε5 ⟨rfl, rfl⟩, ?_, ?_, fun t ht => ?_, fun j hj => ?_, fun l hl => ?_⟩
      · rw [wt_v_sf ε5]; omega
      · rw [f5.2 36 (fun h => h)]; exact wt_v_sa ε4
      · rw [f5.2 36 (fun h => h), wt_w_sa ε4 t ht, fv.2 36 (by decide)]; exact fu.2 36 (by decide) t
      · rw [f5.2 37 (fun h => h), f4.2 37 (by decide)]; exact jo j hj
      · rw [f5.2 37 (fun h => h), f4.2 37 (by decide), j1 l (by omega)]; exact (i2 l hl).1
    · have g' := wt_ncle g
      refine wt_H_gd (fun _ => ?_)
      have ei := wt_i1 (c := v.1) (by omega)
      have em1 := wt_mulR (x := wt_gf s 34 4) k26 (by omega) (by omega)
      have ea := wt_addE (x := (wt_gf s 34 4) * (26 : Int32)) (y := v.1) (by omega) (by omega)
      refine wt_H_bh (wh_put n (k := 26 * T + Int32.toNatClampNeg v.1) (by omega) (by rw [show wt_ln 37 = 208 from by decide]; omega)) (fun q ε => ?_)
      refine hK _ ⟨by show 0 ≤ (v.1 + (1 : Int32)).toInt; omega, fv.sa ε rfl, fun j hj => ?_, fun l hl => ?_⟩
      · show wt_ga q 37 j = _
        rw [wt_w_sa ε j (by omega)]; exact jo j hj
      · have hl' : (l : Int) < (v.1 + (1 : Int32)).toInt := hl
        show wt_ga q 37 (26 * T + l) = _
        by_cases hc : l = Int32.toNatClampNeg v.1
        · rw [hc, wt_v_sa ε]; exact fv.2 38 (by decide) _
        · rw [wt_w_sa ε _ (by omega)]; exact j1 l (by omega)
  · have d' := wt_ncle d
    have ei := wt_i1 (c := u.1) (by omega)
    rw [u34]
    have em1 := wt_mulR (x := wt_gf s 34 4) k12 (by omega) (by omega)
    have ea := wt_addE (x := (wt_gf s 34 4) * (12 : Int32)) (y := u.1) (by omega) (by omega)
    refine wt_H_bh (wh_look n hn (k := 12 * T + Int32.toNatClampNeg u.1) (by omega) (by rw [show wt_ln 35 = 96 from by decide]; omega)) (fun q hq => ?_)
    subst hq
    dsimp only
    rw [fu.2 35 (by decide)]
    have hwk := hw (Int32.toNatClampNeg u.1) (by omega)
    have ew := wt_tnI hwk.1
    obtain ⟨t1, -, -, t4, -, t6⟩ := tt (Int32.toNatClampNeg (wt_ga s 35 (12 * T + Int32.toNatClampNeg u.1))) (by omega)
    obtain ⟨mw, emw⟩ : ∃ mw : Nat, (wt_ga s 22 (Int32.toNatClampNeg (wt_ga s 35 (12 * T + Int32.toNatClampNeg u.1)))).toInt = (mw : Int) := ⟨_, (wt_tnI (by have t4' : 1 ≤ (wt_ga s 22 (Int32.toNatClampNeg (wt_ga s 35 (12 * T + Int32.toNatClampNeg u.1)))).toInt ∧ _ := t4; omega)).symm⟩
    have t4' : 1 ≤ (wt_ga s 22 (Int32.toNatClampNeg (wt_ga s 35 (12 * T + Int32.toNatClampNeg u.1)))).toInt ∧ (wt_ga s 22 (Int32.toNatClampNeg (wt_ga s 35 (12 * T + Int32.toNatClampNeg u.1)))).toInt ≤ 9 := t4
    refine wt_H_bh (wh_countInto n hn (t0 := 20) (a2 := 38) (w := Int32.toNatClampNeg (wt_ga s 35 (12 * T + Int32.toNatClampNeg u.1))) (m := mw) (c := 108) (by decide) (by decide) l38 (by decide) (by decide) (by omega) (by omega) (by rw [fu.2 (20 + 2) (by decide)]; exact emw) (by omega) (fun k hk => ?_) (fun l hl => ?_) (by omega)) (fun q hq => ?_)
    · rw [fu.2 (20 + 1) (by decide)]
      exact (t6 k (by show (k : Int) < (wt_ga s 22 _).toInt; omega)).2
    · have := (i2 l hl).2
      omega
    · obtain ⟨fq, cq⟩ := hq
      refine hK _ ⟨by show 0 ≤ (u.1 + (1 : Int32)).toInt; omega, by show (u.1 + (1 : Int32)).toInt ≤ _; omega, wt_fr.tr fu fq (fun i k h => h) (fun i h => h), fun l hl => ?_⟩
      show (wt_ga q 38 l).toInt = wt_sum _ (Int32.toNatClampNeg (u.1 + (1 : Int32))) ∧ 0 ≤ (wt_ga q 38 l).toInt ∧ (wt_ga q 38 l).toInt ≤ 9 * (u.1 + (1 : Int32)).toInt
      rw [show Int32.toNatClampNeg (u.1 + (1 : Int32)) = Int32.toNatClampNeg u.1 + 1 by have := wt_tnI (x := u.1 + (1 : Int32)) (by omega); omega, cq l hl]
      have e21 : (fun k => (wt_ga u.2 (20 + 1) (9 * Int32.toNatClampNeg (wt_ga s 35 (12 * T + Int32.toNatClampNeg u.1)) + k)).toInt) = (fun k => (wt_ga s 21 (9 * Int32.toNatClampNeg (wt_ga s 35 (12 * T + Int32.toNatClampNeg u.1)) + k)).toInt) := by
        funext k
        rw [fu.2 (20 + 1) (by decide)]
      rw [e21]
      have hnw := wt_nw_tt (l := (l : Int)) tt (w := Int32.toNatClampNeg (wt_ga s 35 (12 * T + Int32.toNatClampNeg u.1))) (m := mw) (by omega) emw
      have hbd := wt_ct_bd (fun k => (wt_ga s 21 (9 * Int32.toNatClampNeg (wt_ga s 35 (12 * T + Int32.toNatClampNeg u.1)) + k)).toInt) (l : Int) mw
      have h3 := i2 l hl
      show _ = wt_sum _ (Int32.toNatClampNeg u.1) + wt_nw z (Int32.toNatClampNeg (wt_ga s 35 (12 * T + Int32.toNatClampNeg u.1))) (l : Int) ∧ _
      rw [← hnw]
      omega
