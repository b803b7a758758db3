/-! what is asked first: a text, a word, a letter, copies -/
theorem wh_txhas (n : Nat) {x : Int32} {s : wt_St} : wt_H (wp_tx_has n x s) (fun q => q.2 = s ∧ ((q.1 = 1 ∧ 0 ≤ x.toInt ∧ x.toInt < (wt_gf s 34 4).toInt) ∨ (q.1 = 0 ∧ (x.toInt < 0 ∨ (wt_gf s 34 4).toInt ≤ x.toInt)))) := by
  have k0 : (0 : Int32).toInt = 0 := by decide
  unfold wp_tx_has
  refine wt_H_if (fun c => ?_) (fun c => wt_H_if (fun d => ?_) (fun d => ?_))
  · have := wt_clt c
    exact wt_H_some ⟨rfl, Or.inr ⟨rfl, by omega⟩⟩
  · have := wt_cle d
    exact wt_H_some ⟨rfl, Or.inr ⟨rfl, by omega⟩⟩
  · have := wt_ncl c
    have := wt_ncle d
    exact wt_H_some ⟨rfl, Or.inl ⟨rfl, by omega, by omega⟩⟩
theorem wh_tghas (n : Nat) {t : Nat} {x : Int32} {s : wt_St} : wt_H (wp_tg_has n t x s) (fun q => q.2 = s ∧ ((q.1 = 1 ∧ 0 ≤ x.toInt ∧ x.toInt < (wt_gf s t 6).toInt) ∨ (q.1 = 0 ∧ (x.toInt < 0 ∨ (wt_gf s t 6).toInt ≤ x.toInt)))) := by
  have k0 : (0 : Int32).toInt = 0 := by decide
  unfold wp_tg_has
  refine wt_H_if (fun c => ?_) (fun c => wt_H_if (fun d => ?_) (fun d => ?_))
  · have := wt_clt c
    exact wt_H_some ⟨rfl, Or.inr ⟨rfl, by omega⟩⟩
  · have := wt_cle d
    exact wt_H_some ⟨rfl, Or.inr ⟨rfl, by omega⟩⟩
  · have := wt_ncl c
    have := wt_ncle d
    exact wt_H_some ⟨rfl, Or.inl ⟨rfl, by omega, by omega⟩⟩
theorem wh_isText (n : Nat) {x : Int32} {z : wt_St} (h0 : 0 ≤ (wt_gf z 108 39).toInt) (h1 : (wt_gf z 108 39).toInt ≤ 8) : wt_H (wp_md_isText n x z) (fun q => q.2 = z ∧ ((q.1 = 1 ∧ 0 ≤ x.toInt ∧ x.toInt < (wt_gf z 108 39).toInt) ∨ (q.1 = 0 ∧ (x.toInt < 0 ∨ (wt_gf z 108 39).toInt ≤ x.toInt)))) := by
  have k0 : (0 : Int32).toInt = 0 := by decide
  have k1 : (1 : Int32).toInt = 1 := by decide
  have es := wt_subE (x := wt_gf z 108 39) (y := (1 : Int32)) (by omega) (by omega)
  unfold wp_md_isText
  refine wt_H_bh (wh_in n) (fun q hq => wt_H_some ⟨hq.1, ?_⟩)
  rcases hq.2 with ⟨a, b⟩ | ⟨a, b, c⟩
  · exact Or.inr ⟨a, by omega⟩
  · exact Or.inl ⟨a, by omega, by omega⟩
theorem wh_isWordNumber (n : Nat) {x : Int32} {z : wt_St} (h0 : 0 ≤ (wt_gf z 108 28).toInt) (h1 : (wt_gf z 108 28).toInt ≤ 60) : wt_H (wp_md_isWordNumber n x z) (fun q => q.2 = z ∧ ((q.1 = 1 ∧ 0 ≤ x.toInt ∧ x.toInt < (wt_gf z 108 28).toInt) ∨ (q.1 = 0 ∧ (x.toInt < 0 ∨ (wt_gf z 108 28).toInt ≤ x.toInt)))) := by
  have k0 : (0 : Int32).toInt = 0 := by decide
  have k1 : (1 : Int32).toInt = 1 := by decide
  have es := wt_subE (x := wt_gf z 108 28) (y := (1 : Int32)) (by omega) (by omega)
  unfold wp_md_isWordNumber
  refine wt_H_bh (wh_in n) (fun q hq => wt_H_some ⟨hq.1, ?_⟩)
  rcases hq.2 with ⟨a, b⟩ | ⟨a, b, c⟩
  · exact Or.inr ⟨a, by omega⟩
  · exact Or.inl ⟨a, by omega, by omega⟩
theorem wh_miss0 (n : Nat) {σ : wt_St} : wt_H (wp_ap_miss n (0 : Int32) σ) (fun q => q = (0, 0, σ)) := by
  unfold wp_ap_miss
  rw [if_pos rfl]
  exact wt_H_some rfl
theorem wh_miss1 (n : Nat) {σ : wt_St} : wt_H (wp_ap_miss n (1 : Int32) σ) (fun q => q = (2, 0, σ)) := by
  unfold wp_ap_miss
  rw [if_neg (by decide)]
  exact wt_H_some rfl
theorem wh_copies (n : Nat) {x : Int32} {σ : wt_St} : wt_H (wp_ap_refuseCopies n x σ) (fun q => (q = (0, 0, σ) ∧ 1 ≤ x.toInt ∧ x.toInt ≤ 400) ∨ (q = (1, 0, σ) ∧ (x.toInt < 1 ∨ 400 < x.toInt))) := by
  have k1 : (1 : Int32).toInt = 1 := by decide
  have k400 : (400 : Int32).toInt = 400 := by decide
  unfold wp_ap_refuseCopies wp_ap_refuseCopies_B12 wp_ap_refuseCopies_B17
  have B : (x.toInt < 1 ∨ 400 < x.toInt) → wt_H ((wp_ap_refuse n (1 : Int32) σ).bind fun q2 => if q2.1 = 0 then some ((0 : Nat), (0 : Int32), q2.2.2) else some (q2.1, (0 : Int32), q2.2.2)) (fun q => (q = (0, 0, σ) ∧ 1 ≤ x.toInt ∧ x.toInt ≤ 400) ∨ (q = (1, 0, σ) ∧ (x.toInt < 1 ∨ 400 < x.toInt))) := fun hx => by
    refine wt_H_bh (wh_refuse1 n) (fun q hq => ?_)
    subst hq
    dsimp only
    rw [if_neg (by decide)]
    exact wt_H_some (Or.inr ⟨rfl, hx⟩)
  refine wt_H_if (fun c => B (by have := wt_clt c; omega)) (fun c => wt_H_if (fun d => ?_) (fun d => B (by have := wt_ncle d; omega)))
  have := wt_ncl c
  have := wt_cle d
  refine wt_H_bh (wh_refuse0 n) (fun q hq => ?_)
  subst hq
  dsimp only
  rw [if_pos rfl]
  exact wt_H_some (Or.inl ⟨rfl, by omega, by omega⟩)
theorem wh_isCopies (n : Nat) {x : Int32} {z : wt_St} : wt_H (wp_md_isCopies n x z) (fun q => q.2 = z ∧ ((q.1 = 1 ∧ 1 ≤ x.toInt ∧ x.toInt ≤ 400) ∨ (q.1 = 0 ∧ (x.toInt < 1 ∨ 400 < x.toInt)))) := by
  have k1 : (1 : Int32).toInt = 1 := by decide
  have k400 : (400 : Int32).toInt = 400 := by decide
  unfold wp_md_isCopies
  refine wt_H_bh (wh_in n) (fun q hq => wt_H_some ⟨hq.1, ?_⟩)
  rcases hq.2 with ⟨a, b⟩ | ⟨a, b, c⟩
  · exact Or.inr ⟨a, by omega⟩
  · exact Or.inl ⟨a, by omega, by omega⟩
/-- the i-th word of a text -/
theorem wh_wordAt (n : Nat) (hn : 4294967297 < n) {t m : Nat} {x1 x2 : Int32} {s : wt_St} (h1 : x1.toInt = (t : Int)) (ht : t < 8) (hm : (wt_ga s 36 t).toInt = (m : Int)) (hm12 : m ≤ 12) : wt_H (wp_tx_wordAt n x1 x2 s) (fun q => q.2 = s ∧ ((∃ i : Nat, x2.toInt = (i : Int) ∧ i < m ∧ q.1 = wt_ga s 35 (12 * t + i)) ∨ ((x2.toInt < 0 ∨ (m : Int) ≤ x2.toInt) ∧ q.1 = -1))) := by
  have k0 : (0 : Int32).toInt = 0 := by decide
  have k12 : (12 : Int32).toInt = 12 := by decide
  unfold wp_tx_wordAt wp_tx_lengthOf
  refine wt_H_if (fun c => ?_) (fun c => ?_)
  · have := wt_clt c
    exact wt_H_some ⟨rfl, Or.inr ⟨by omega, rfl⟩⟩
  · have c' := wt_ncl c
    simp only [Option.bind_assoc]
    refine wt_H_bh (wh_look n hn (k := t) h1 (by rw [show wt_ln 36 = 8 from by decide]; exact ht)) (fun q hq => ?_)
    subst hq
    show wt_H (if wt_ga s 36 t ≤ x2 then some ((-1 : Int32), s) else (wp_ap_look n 35 ((x1 * (12 : Int32)) + x2) s).bind fun q4 => some (q4.1, q4.2)) _
    refine wt_H_if (fun d => ?_) (fun d => ?_)
    · have := wt_cle d
      exact wt_H_some ⟨rfl, Or.inr ⟨by omega, rfl⟩⟩
    · have d' := wt_ncle d
      have e2 := wt_tnI (x := x2) (by omega)
      have em := wt_mulR (x := x1) k12 (by omega) (by omega)
      have ea := wt_addE (x := x1 * (12 : Int32)) (y := x2) (by omega) (by omega)
      refine wt_H_bh (wh_look n hn (k := 12 * t + Int32.toNatClampNeg x2) (by omega) (by rw [show wt_ln 35 = 96 from by decide]; omega)) (fun q hq => ?_)
      subst hq
      exact wt_H_some ⟨rfl, Or.inl ⟨Int32.toNatClampNeg x2, by omega, by omega, rfl⟩⟩
/-- at, on both sides -/
theorem wr_at (n : Nat) (hn : 4294967297 < n) {x1 x2 : Int32} {s z : wt_St} (rz : wt_RI z) (tx : wu_TX s z) : wt_HH (wp_ap_at n x1 x2 s) (wp_md_at n x1 x2 z) (fun q y => (q.1 = 2 ∧ wt_gf y.2 108 0 = 1) ∨ (q.1 = 0 ∧ wt_gf y.2 108 0 = 0 ∧ q.2.1 = y.1)) := by
  have k0 : (0 : Int32).toInt = 0 := by decide
  have k1 : (1 : Int32).toInt = 1 := by decide
  have hz : 0 ≤ (wt_gf z 108 39).toInt ∧ (wt_gf z 108 39).toInt ≤ 8 := wt_R_gf rz 7 rfl
  unfold wp_ap_at wp_md_at
  obtain ⟨z0, ε0⟩ : ∃ o : wt_St, o = wt_sf z 108 0 (0 : Int32) := ⟨_, rfl⟩
  rw [← ε0]
  have g0 := wt_fr_sf ε0
  have t0 : wt_gf z0 108 0 = 0 := wt_v_sf ε0
  have e39 : wt_gf z0 108 39 = wt_gf z 108 39 := g0.1 108 39 (by decide)
  refine wt_HH_l (wh_txhas n) (fun q1 h1 => ?_)
  obtain ⟨a1, b1⟩ := h1
  rw [a1]
  refine wt_HH_r (wh_isText n (by rw [e39]; exact hz.1) (by rw [e39]; exact hz.2)) (fun y1 h1' => ?_)
  obtain ⟨a2, b2⟩ := h1'
  rw [a2]
  rw [e39] at b2
  have eT := wt_ceq tx.1
  unfold wp_ap_at_B16 wp_md_at_B19
  rcases b1 with ⟨c1, c2, c3⟩ | ⟨c1, c2⟩
  · rcases b2 with ⟨d1, -, -⟩ | ⟨d1, d2⟩
    · rw [if_neg (by rw [c1]; decide), if_neg (by rw [d1]; decide)]
      refine wt_HH_l (wh_miss0 n) (fun q hq => ?_)
      subst hq
      dsimp only
      rw [if_pos rfl]
      refine wt_HH_r (wh_bad0 n t0) (fun y hy => ?_)
      subst hy
      dsimp only
      rw [if_pos rfl]
      have et := wt_tnI c2
      obtain ⟨m, m1, m2, m3, m4, m5, m6⟩ := tx.2 (Int32.toNatClampNeg x1) (by omega)
      have e253 : wt_ga z0 253 (Int32.toNatClampNeg x1) = wt_ga s 36 (Int32.toNatClampNeg x1) := (g0.2 253 (fun h => h) _).trans m2
      refine wt_HH_l (wh_wordAt n hn (t := Int32.toNatClampNeg x1) (m := m) (by omega) (by omega) m1 m4) (fun q4 h4 => ?_)
      obtain ⟨e4, h4⟩ := h4
      refine wt_HH_gr (fun _ => ?_)
      rw [e253]
      have es := wt_subE (x := wt_ga s 36 (Int32.toNatClampNeg x1)) (y := (1 : Int32)) (by omega) (by omega)
      refine wt_HH_r (wh_in n) (fun y6 h6 => ?_)
      obtain ⟨f1, f2⟩ := h6
      rw [f1]
      rcases h4 with ⟨i, i1, i2, i3⟩ | ⟨i1, i2⟩
      · rcases f2 with ⟨f2, f3⟩ | ⟨f2, -⟩
        · omega
        · rw [if_neg (by rw [f2]; decide)]
          refine wt_HH_gr (fun _ => ?_)
          refine wt_HH_gr (fun _ => ?_)
          refine wt_HH_some (Or.inr ⟨rfl, t0, ?_⟩)
          show q4.1 = wt_ga z0 (255 + Int32.toNatClampNeg x1) (Int32.toNatClampNeg x2)
          rw [g0.2 _ (fun h => h), i3, (m5 i i2).1, wt_tnN i1]
      · rcases f2 with ⟨f2, f3⟩ | ⟨f2, f3, f4⟩
        · rw [if_pos f2]
          exact wt_HH_some (Or.inr ⟨rfl, t0, i2⟩)
        · omega
    · omega
  · rcases b2 with ⟨d1, d2, d3⟩ | ⟨d1, -⟩
    · omega
    · rw [if_pos c1, if_pos d1]
      refine wt_HH_l (wh_miss1 n) (fun q hq => ?_)
      subst hq
      dsimp only
      rw [if_neg (by decide)]
      refine wt_HH_r (wh_bad1 n t0 (by decide)) (fun y hy => ?_)
      subst hy
      dsimp only
      rw [if_neg (by decide)]
      exact wt_HH_some (Or.inl ⟨rfl, wt_v_sf rfl⟩)
theorem wa1_at (n : Nat) (hn : 4294967297 < n) {σ : wt_St} (x1 x2 : Int32) (v : wt_IV σ) (j : wu_Q1 σ) : wt_H (wp_ap_at n x1 x2 σ) (fun q => wt_H (wp_md_at n x1 x2 q.2.2) (fun r => ((q.1 = 2 ∧ wt_gf r.2 108 0 = 1) ∨ (q.1 = 0 ∧ wt_gf r.2 108 0 = 0 ∧ q.2.1 = r.1)) ∧ wu_Q1 r.2)) := by
  intro q hq r hr
  obtain ⟨q', hq', hfq⟩ := wq_ap_at n hn x1 x2 σ
  rw [hq] at hq'
  cases hq'
  have e := hfq.1
  rw [e] at hr
  refine ⟨wr_at n hn v.1 j.2.1 q r hq hr, ?_⟩
  have := wk1_at n hn x1 x2 v j q hq r
  rw [e] at this
  exact this hr
theorem wa1_fault (n : Nat) (hn : 4294967297 < n) {σ : wt_St} (v : wt_IV σ) (j : wu_Q1 σ) : wt_H (wp_ap_fault n σ) (fun q => wt_H (wp_md_fault n q.2) (fun r => q.1 = r.1 ∧ wu_Q1 r.2)) := by
  intro q hq r hr
  refine ⟨?_, wk1_fault n hn v j q hq r hr⟩
  unfold wp_ap_fault at hq
  cases hq
  unfold wp_md_fault at hr
  cases hr
  show wt_gf σ 1 7 = wt_gf (wt_sf σ 108 0 (0 : Int32)) 108 3
  rw [(wt_fr_sf rfl : wt_fr _ _ σ (wt_sf σ 108 0 (0 : Int32))).1 108 3 (by decide)]
  exact j.2.2.1
theorem wa1_count (n : Nat) (hn : 4294967297 < n) {σ : wt_St} (x1 : Int32) (v : wt_IV σ) (ti : (wt_gf σ 1 2).toInt = (wt_gf σ 108 1).toInt) (j : wu_Q1 σ) : wt_H (wp_ap_count n x1 σ) (fun q => wt_H (wp_md_count n x1 q.2) (fun r => q.1 = r.1 ∧ wu_Q1 r.2)) := by
  intro q hq r hr
  refine ⟨?_, wk1_count n hn x1 v j q hq r hr⟩
  have f0 : wt_fr _ _ σ (wt_sf σ 108 0 (0 : Int32)) := wt_fr_sf rfl
  unfold wp_ap_count at hq
  unfold wp_md_count at hr
  by_cases h0 : x1 = 0
  · rw [if_pos h0] at hq
    cases hq
    rw [if_pos h0] at hr
    cases hr
    show wt_gf σ 0 14 = wt_gf (wt_sf σ 108 0 (0 : Int32)) 108 41
    rw [f0.1 108 41 (by decide)]
    exact j.2.2.2
  · rw [if_neg h0] at hq hr
    by_cases h1 : x1 = (1 : Int32)
    · rw [if_pos h1] at hq
      cases hq
      rw [if_pos h1] at hr
      cases hr
      show wt_gf σ 1 2 = wt_gf (wt_sf σ 108 0 (0 : Int32)) 108 1
      rw [f0.1 108 1 (by decide)]
      exact wt_eqI ti
    · rw [if_neg h1] at hq hr
      cases hq
      cases hr
      rfl
