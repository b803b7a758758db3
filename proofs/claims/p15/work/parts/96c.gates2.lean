/-! the gates once for all: a text, a word, a page, copies -/
theorem wr_mb0 (n : Nat) {k : Int32} {s z0 : wt_St} {C : Nat × Int32 × wt_St → Option (Nat × Int32 × wt_St)} {D : Int32 × wt_St → Option (Int32 × wt_St)} {Q : Nat × Int32 × wt_St → Int32 × wt_St → Prop} (t0 : wt_gf z0 108 0 = 0) (h : wt_HH (C (0, 0, s)) (D (0, z0)) Q) : wt_HH ((wp_ap_miss n (0 : Int32) s).bind (fun q3 => if q3.1 = 0 then C q3 else some (q3.1, 0, q3.2.2))) ((wp_md_bad n (0 : Int32) k z0).bind (fun q3 => if q3.1 = 0 then D q3 else some ((0 : Int32), q3.2))) Q := by
  refine wt_HH_l (wh_miss0 n) (fun q hq => ?_)
  subst hq
  refine wt_HH_r (wh_bad0 n t0) (fun y hy => ?_)
  subst hy
  rw [if_pos (show ((0 : Nat), (0 : Int32), s).1 = 0 from rfl), if_pos (show ((0 : Int32), z0).1 = 0 from rfl)]
  exact h
theorem wr_mb1 (n : Nat) {k : Int32} {s z0 : wt_St} {C : Nat × Int32 × wt_St → Option (Nat × Int32 × wt_St)} {D : Int32 × wt_St → Option (Int32 × wt_St)} {Q : Nat × Int32 × wt_St → Int32 × wt_St → Prop} (t0 : wt_gf z0 108 0 = 0) (hk : ¬ k = 0) (h : Q (2, 0, s) (0, wt_sf z0 108 0 k)) : wt_HH ((wp_ap_miss n (1 : Int32) s).bind (fun q3 => if q3.1 = 0 then C q3 else some (q3.1, 0, q3.2.2))) ((wp_md_bad n (1 : Int32) k z0).bind (fun q3 => if q3.1 = 0 then D q3 else some ((0 : Int32), q3.2))) Q := by
  refine wt_HH_l (wh_miss1 n) (fun q hq => ?_)
  subst hq
  refine wt_HH_r (wh_bad1 n t0 hk) (fun y hy => ?_)
  subst hy
  rw [if_neg (show ¬ ((2 : Nat), (0 : Int32), s).1 = 0 by show ¬ ((2 : Nat) = 0); decide), if_neg (show ¬ ((1 : Int32), wt_sf z0 108 0 k).1 = 0 by show ¬ ((1 : Int32) = 0); decide)]
  exact wt_HH_some h
theorem wh_b1 (n : Nat) {k : Int32} {z0 : wt_St} {D : Int32 × wt_St → Option (Int32 × wt_St)} {P : Int32 × wt_St → Prop} (t0 : wt_gf z0 108 0 = 0) (hk : ¬ k = 0) (h : P (0, wt_sf z0 108 0 k)) : wt_H ((wp_md_bad n (1 : Int32) k z0).bind (fun q3 => if q3.1 = 0 then D q3 else some ((0 : Int32), q3.2))) P := by
  refine wt_H_bh (wh_bad1 n t0 hk) (fun y hy => ?_)
  subst hy
  rw [if_neg (show ¬ ((1 : Int32), wt_sf z0 108 0 k).1 = 0 by show ¬ ((1 : Int32) = 0); decide)]
  exact wt_H_some h
theorem wr_b0 (n : Nat) {α : Type} {k : Int32} {z0 : wt_St} {p : Option α} {D : Int32 × wt_St → Option (Int32 × wt_St)} {Q : α → Int32 × wt_St → Prop} (t0 : wt_gf z0 108 0 = 0) (h : wt_HH p (D (0, z0)) Q) : wt_HH p ((wp_md_bad n (0 : Int32) k z0).bind (fun q3 => if q3.1 = 0 then D q3 else some ((0 : Int32), q3.2))) Q := by
  refine wt_HH_r (wh_bad0 n t0) (fun y hy => ?_)
  subst hy
  rw [if_pos (show ((0 : Int32), z0).1 = 0 from rfl)]
  exact h
theorem wr_gT (n : Nat) {x1 : Int32} {s z0 : wt_St} (B : Int32 → wt_St → Option (Nat × Int32 × wt_St)) (D : Int32 → wt_St → Option (Int32 × wt_St)) {Q : Nat × Int32 × wt_St → Int32 × wt_St → Prop} (eT : wt_gf s 34 4 = wt_gf z0 108 39) (hz : 0 ≤ (wt_gf z0 108 39).toInt ∧ (wt_gf z0 108 39).toInt ≤ 8) (no : wt_HH (B 1 s) (D 1 z0) Q) (yes : 0 ≤ x1.toInt → x1.toInt < (wt_gf z0 108 39).toInt → wt_HH (B 0 s) (D 0 z0) Q) : wt_HH ((wp_tx_has n x1 s).bind fun q1 => if q1.1 = 0 then B (1 : Int32) q1.2 else B (0 : Int32) q1.2) ((wp_md_isText n x1 z0).bind fun q1 => if q1.1 = 0 then D (1 : Int32) q1.2 else D (0 : Int32) q1.2) Q := by
  have eT' := wt_ceq eT
  refine wt_HH_l (wh_txhas n) (fun q1 h1 => ?_)
  obtain ⟨a1, b1⟩ := h1
  rw [a1]
  refine wt_HH_r (wh_isText n hz.1 hz.2) (fun y1 h1' => ?_)
  obtain ⟨a2, b2⟩ := h1'
  rw [a2]
  rcases b1 with ⟨c1, c2, c3⟩ | ⟨c1, c2⟩
  · rcases b2 with ⟨d1, d2, d3⟩ | ⟨d1, d2⟩
    · rw [if_neg (show ¬ q1.1 = 0 by rw [c1]; decide), if_neg (show ¬ y1.1 = 0 by rw [d1]; decide)]
      exact yes d2 d3
    · omega
  · rcases b2 with ⟨d1, d2, d3⟩ | ⟨d1, -⟩
    · omega
    · rw [if_pos (show q1.1 = 0 from c1), if_pos (show y1.1 = 0 from d1)]
      exact no
theorem wr_gW (n : Nat) {x1 : Int32} {s z0 : wt_St} (B : Int32 → wt_St → Option (Nat × Int32 × wt_St)) (D : Int32 → wt_St → Option (Int32 × wt_St)) {Q : Nat × Int32 × wt_St → Int32 × wt_St → Prop} (eT : (wt_gf s 20 6).toInt = (wt_gf z0 108 28).toInt) (hz : 0 ≤ (wt_gf z0 108 28).toInt ∧ (wt_gf z0 108 28).toInt ≤ 60) (no : wt_HH (B 1 s) (D 1 z0) Q) (yes : 0 ≤ x1.toInt → x1.toInt < (wt_gf z0 108 28).toInt → wt_HH (B 0 s) (D 0 z0) Q) : wt_HH ((wp_tg_has n 20 x1 s).bind fun q1 => if q1.1 = 0 then B (1 : Int32) q1.2 else B (0 : Int32) q1.2) ((wp_md_isWordNumber n x1 z0).bind fun q1 => if q1.1 = 0 then D (1 : Int32) q1.2 else D (0 : Int32) q1.2) Q := by
  refine wt_HH_l (wh_tghas n) (fun q1 h1 => ?_)
  obtain ⟨a1, b1⟩ := h1
  rw [a1]
  refine wt_HH_r (wh_isWordNumber n hz.1 hz.2) (fun y1 h1' => ?_)
  obtain ⟨a2, b2⟩ := h1'
  rw [a2]
  rcases b1 with ⟨c1, c2, c3⟩ | ⟨c1, c2⟩
  · rcases b2 with ⟨d1, d2, d3⟩ | ⟨d1, d2⟩
    · rw [if_neg (show ¬ q1.1 = 0 by rw [c1]; decide), if_neg (show ¬ y1.1 = 0 by rw [d1]; decide)]
      exact yes d2 d3
    · omega
  · rcases b2 with ⟨d1, d2, d3⟩ | ⟨d1, -⟩
    · omega
    · rw [if_pos (show q1.1 = 0 from c1), if_pos (show y1.1 = 0 from d1)]
      exact no
theorem wr_gP (n : Nat) (hn : 4294967297 < n) {x1 : Int32} {s z0 : wt_St} (B : Int32 → wt_St → Option (Nat × Int32 × wt_St)) (D : Int32 → wt_St → Option (Int32 × wt_St)) {Q : Nat × Int32 × wt_St → Int32 × wt_St → Prop} (eP : ∀ g, g < 4 → wt_ga s 43 g = wt_ga z0 275 g) (no : wt_HH (B 1 s) (D 1 z0) Q) (yes : 0 ≤ x1.toInt → x1.toInt < 4 → (wt_ga z0 275 (Int32.toNatClampNeg x1)).toInt ≠ -1 → wt_HH (B 0 s) (D 0 z0) Q) : wt_HH ((wp_pg_stands n x1 s).bind fun q1 => if q1.1 = 0 then B (1 : Int32) q1.2 else B (0 : Int32) q1.2) ((wp_md_isPage n x1 z0).bind fun q1 => if q1.1 = 0 then D (1 : Int32) q1.2 else D (0 : Int32) q1.2) Q := by
  refine wt_HH_l (wh_stands n hn) (fun q1 h1 => ?_)
  obtain ⟨a1, b1⟩ := h1
  rw [a1]
  refine wt_HH_r (wh_isPage n) (fun y1 h1' => ?_)
  obtain ⟨a2, b2⟩ := h1'
  rw [a2]
  have same : ∀ h : (0 ≤ x1.toInt ∧ x1.toInt < 4), wt_ga s 43 (Int32.toNatClampNeg x1) = wt_ga z0 275 (Int32.toNatClampNeg x1) := fun h => eP _ (by have := wt_tnI h.1; omega)
  rcases b1 with ⟨c1, c2, c3⟩ | ⟨c1, c2⟩
  · rcases b2 with ⟨d1, d2, d3⟩ | ⟨d1, d2⟩
    · rw [if_neg (show ¬ q1.1 = 0 by rw [c1]; decide), if_neg (show ¬ y1.1 = 0 by rw [d1]; decide)]
      exact yes d2.1 d2.2 d3
    · exact absurd ⟨c2, by rw [← same c2]; exact c3⟩ d2
  · rcases b2 with ⟨d1, d2, d3⟩ | ⟨d1, -⟩
    · exact absurd ⟨d2, by rw [same d2]; exact d3⟩ c2
    · rw [if_pos (show q1.1 = 0 from c1), if_pos (show y1.1 = 0 from d1)]
      exact no
theorem wr_gC (n : Nat) {x2 : Int32} {s z0 : wt_St} {C : Nat × Int32 × wt_St → Option (Nat × Int32 × wt_St)} (D : Int32 → wt_St → Option (Int32 × wt_St)) {Q : Nat × Int32 × wt_St → Int32 × wt_St → Prop} (no : wt_H (D 1 z0) (fun y => Q (1, 0, s) y)) (yes : 1 ≤ x2.toInt → x2.toInt ≤ 400 → wt_HH (C (0, 0, s)) (D 0 z0) Q) : wt_HH ((wp_ap_refuseCopies n x2 s).bind fun q4 => if q4.1 = 0 then C q4 else some (q4.1, 0, q4.2.2)) ((wp_md_isCopies n x2 z0).bind fun q5 => if q5.1 = 0 then D (1 : Int32) q5.2 else D (0 : Int32) q5.2) Q := by
  refine wt_HH_l (wh_copies n) (fun q4 h4 => ?_)
  refine wt_HH_r (wh_isCopies n) (fun y5 h5 => ?_)
  obtain ⟨a5, b5⟩ := h5
  rw [a5]
  rcases h4 with ⟨h4, f1, f2⟩ | ⟨h4, f1⟩
  · rcases b5 with ⟨i1, -, -⟩ | ⟨i1, i2⟩
    · subst h4
      rw [if_pos (show ((0 : Nat), (0 : Int32), s).1 = 0 from rfl), if_neg (show ¬ y5.1 = 0 by rw [i1]; decide)]
      exact yes f1 f2
    · omega
  · rcases b5 with ⟨i1, i2, i3⟩ | ⟨i1, -⟩
    · omega
    · subst h4
      rw [if_neg (show ¬ ((1 : Nat), (0 : Int32), s).1 = 0 by show ¬ ((1 : Nat) = 0); decide), if_pos (show y5.1 = 0 from i1)]
      exact fun a b ha hb => by
        cases ha
        exact no b hb
