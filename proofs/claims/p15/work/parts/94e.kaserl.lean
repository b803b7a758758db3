theorem wt_HH_and {α β : Type} {p : Option α} {p' : Option β} {Q : α → β → Prop} {P : α → Prop} {P' : β → Prop} (h : wt_HH p p' Q) (h1 : wt_H p P) (h2 : wt_H p' P') : wt_HH p p' (fun a b => Q a b ∧ P a ∧ P' b) := fun a b e e' => ⟨h a b e e', h1 a e, h2 b e'⟩
theorem wu_SI0 {s z : wt_St} (h : wt_gf s 0 14 = 0) (h' : wt_gf z 108 41 = 0) : wu_SI s z := ⟨h.trans h'.symm, fun i hi => by
  have k0 : (0 : Int32).toInt = 0 := by decide
  rw [h'] at hi
  omega⟩
set_option maxHeartbeats 8000000 in
theorem wr_kaseR (n : Nat) (hn : 4294967297 < n) {x1 : Int32} {s z : wt_St} (v : wt_IV z) (tb : wt_TB s z) (lc : wu_LC s z) (sc : wu_SC s z) (si : wu_SI s z) : wt_HH (wp_ap_kase n x1 s) (wp_md_kase n x1 z) (fun q y => ((q.1 = 1 ∧ wt_gf y.2 108 0 = 1) ∨ (q.1 = 0 ∧ wt_gf y.2 108 0 = 0 ∧ q.2.1 = y.1)) ∧ wu_LC q.2.2 y.2 ∧ wu_SC q.2.2 y.2 ∧ wu_SI q.2.2 y.2) := by
  have g41 : 0 ≤ (wt_gf z 108 41).toInt ∧ (wt_gf z 108 41).toInt ≤ 3 := wt_Rf9 v.1
  refine (wt_HH_and (wr_kase n hn tb v.1) (wq_ap_kase n hn x1 s).h (wq_md_kase n hn x1 z v.1 v.2.1).h).imp (fun q y h => ?_)
  obtain ⟨h, hfq, hfy⟩ := h
  have fq := hfq.1
  have fy := hfy.1
  rcases h with ⟨e1, e2, e3, e4⟩ | ⟨e1, e2, e3, -, e5⟩
  · refine ⟨Or.inl ⟨e1, e2⟩, ?_⟩
    rw [e3]
    have f0 : wt_fr (fun _ _ => False) (fun _ => False) s s := wt_fr.rf
    exact ⟨wu_LC_fr lc f0 e4 (fun h => h) (fun _ _ h => h) (by decide) (fun _ _ h => h), wu_SC_fr sc f0 e4 (fun _ _ h => h) (fun k hk => by (try dsimp only); omega) (fun _ _ _ h => h) (fun _ _ h => h), wu_SI_fr si f0 e4 g41.2 (fun _ _ _ h => h) (fun k hk => by (try dsimp only); omega) (fun _ _ _ h => h) (fun _ _ h => h)⟩
  · refine ⟨Or.inr ⟨e1, e2, e3⟩, ?_⟩
    rcases e5 with ⟨-, f1, f2⟩ | kc
    · exact ⟨wu_LC_fr lc f1 f2 (by (try dsimp only); omega) (fun i h => by (try dsimp only); omega) (by (try dsimp only); omega) (fun i h => by (try dsimp only); omega), wu_SC_fr sc f1 f2 (fun k hk => by (try dsimp only); omega) (fun k hk => by (try dsimp only); omega) (fun i p q => by (try dsimp only); omega) (fun i h => by (try dsimp only); omega), wu_SI_fr si f1 f2 g41.2 (fun i k h => by (try dsimp only); omega) (fun k hk => by (try dsimp only); omega) (fun i p q => by (try dsimp only); omega) (fun i h => by (try dsimp only); omega)⟩
    · obtain ⟨c1, c2, c3, c4, c5, c6, c7, c8, c9, c10, c11, c12⟩ := kc
      refine ⟨⟨fun l hl => ⟨(c1 l hl).1, (c1 l hl).2.1, (c1 l hl).2.2.1⟩, c2, c3, c4, c5, c6⟩, ⟨?_, ?_, fun l hl => ⟨fun i hi => ?_, fun i hi hj => ?_⟩, fun g hg => ⟨?_, fun hne => ?_⟩⟩, wu_SI0 c11 c12⟩
      · rw [fq.1 39 9 (by (try dsimp only); omega), fy.1 108 26 (by (try dsimp only); omega)]; exact wu_SC_SH sc
      · exact wu_SW_eq (wu_SC_SW sc) (by rw [fy.1 108 39 (by (try dsimp only); omega)]; exact Int.le_refl _) (fun i p q => fq.2 i (by (try dsimp only); omega)) (fq.1 39 8 (by (try dsimp only); omega)) (fun i p q => fy.2 i (by (try dsimp only); omega)) (fy.1 108 40 (by (try dsimp only); omega))
      · obtain ⟨d1, d2, d3, d4⟩ := c1 l hl
        rw [← d1] at hi
        refine ⟨d4 i hi, ?_, Or.inl ?_⟩
        · show wt_ga q.2.2 41 (12 * l + i) = _
          rw [c7 _ (by omega), c8 _ (by omega)]
        · rw [c8 _ (by omega)]; exact wt_lm1
      · show (wt_ga q.2.2 41 (12 * l + i)).toInt = -1
        rw [c7 _ (by omega)]; exact wt_lm1
      · show wt_ga q.2.2 43 g = _
        rw [c9 g hg, c10 g hg]
      · rw [c10 g hg] at hne
        exact absurd wt_lm1 hne
set_option maxHeartbeats 8000000 in
theorem wr_tongueR (n : Nat) (hn : 4294967297 < n) {x1 : Int32} {s z : wt_St} (v : wt_IV z) (tb : wt_TB s z) (lc : wu_LC s z) (sc : wu_SC s z) (si : wu_SI s z) : wt_HH (wp_ap_tongue n x1 s) (wp_md_tongue n x1 z) (fun q y => wu_LC q.2.2 y.2 ∧ wu_SC q.2.2 y.2 ∧ wu_SI q.2.2 y.2) := by
  have k0 : (0 : Int32).toInt = 0 := by decide
  have g41 : 0 ≤ (wt_gf z 108 41).toInt ∧ (wt_gf z 108 41).toInt ≤ 3 := wt_Rf9 v.1
  refine (wt_HH_and (wr_tongue n hn tb v.1) (wq_ap_tongue n hn x1 s).h (wq_md_tongue n hn x1 z v.1).h).imp (fun q y h => ?_)
  obtain ⟨h, hfq, hfy⟩ := h
  have fq := hfq.1
  have fy := hfy.1
  have lcn := wu_LC_fr lc fq fy (by (try dsimp only); omega) (fun i h => by (try dsimp only); omega) (by (try dsimp only); omega) (fun i h => by (try dsimp only); omega)
  rcases h with ⟨e1, e2, e3, e4⟩ | ⟨e1, e2, e3, -, e5⟩
  · have f0 : wt_fr (fun _ _ => False) (fun _ => False) s s := wt_fr.rf
    refine ⟨lcn, ?_⟩
    rw [e3]
    exact ⟨wu_SC_fr sc f0 e4 (fun _ _ h => h) (fun k hk => by (try dsimp only); omega) (fun _ _ _ h => h) (fun _ _ h => h), wu_SI_fr si f0 e4 g41.2 (fun _ _ _ h => h) (fun k hk => by (try dsimp only); omega) (fun _ _ _ h => h) (fun _ _ h => h)⟩
  · rcases e5 with ⟨-, f1, f2⟩ | te
    · exact ⟨lcn, wu_SC_fr sc f1 f2 (fun k hk => by (try dsimp only); omega) (fun k hk => by (try dsimp only); omega) (fun i p q => by (try dsimp only); omega) (fun i h => by unfold wt_gA; omega), wu_SI_fr si f1 f2 g41.2 (fun i k h => by (try dsimp only); omega) (fun k hk => by (try dsimp only); omega) (fun i p q => by (try dsimp only); omega) (fun i h => by unfold wt_gA; omega)⟩
    · obtain ⟨-, ⟨z34, z8, z14⟩, p41, p43, ⟨z39, z40, z41⟩, ap⟩ := te
      obtain ⟨ap1, ap2, ap3⟩ := ap
      have e111 : wt_ga y.2 111 = wt_ga z 111 := funext (fy.2 111 (by (try dsimp only); omega))
      refine ⟨lcn, ⟨?_, ⟨z8.trans z40.symm, by rw [z8]; omega, fun k hk => by rw [z8] at hk; omega⟩, fun l hl => ?_, fun g hg => ⟨?_, fun hne => absurd (ap1 g hg) hne⟩⟩, wu_SI0 z14 z41⟩
      · rw [fq.1 39 9 (by (try dsimp only); omega), fy.1 108 26 (by (try dsimp only); omega)]; exact wu_SC_SH sc
      · rw [e111]
        obtain ⟨s1, s2⟩ := sc.2.2.1 l hl
        have m12 := v.2.1 l
        refine ⟨fun i hi => ?_, fun i hi hj => ?_⟩
        · obtain ⟨d1, d2, d3⟩ := s1 i hi
          have d1' : wt_ga s 40 (12 * l + i) = wt_ga z 121 (13 * l + i) := d1
          have on : wt_ga y.2 124 (13 * l + i) = -1 := by
            by_cases hin : ∃ g k : Nat, g < 4 ∧ (wt_ga z 275 g).toInt ≠ -1 ∧ (k : Int) < (wt_ga z 276 g).toInt ∧ Int32.toNatClampNeg (wt_ga z (278 + g) k) = 13 * l + i
            · obtain ⟨g, k, g4, gne, kl, ke⟩ := hin
              rw [← ke]
              exact ap2 g g4 gne k kl
            · rw [ap3 _ (fun g g4 gne k kl ke => hin ⟨g, k, g4, gne, kl, ke⟩)]
              rcases d3 with d3 | ⟨g, g4, gv, gne⟩
              · exact wt_eqI (d3.trans wt_lm1.symm)
              · exfalso
                obtain ⟨k, k1, k2⟩ := ((sc.2.2.2 g g4).2 gne).2 l i hl hi gv
                exact hin ⟨g, k, g4, gne, k1, wt_tnN k2⟩
          refine ⟨?_, ?_, Or.inl ?_⟩
          · show wt_ga q.2.2 40 (12 * l + i) = wt_ga y.2 121 (13 * l + i)
            rw [fq.2 40 (by (try dsimp only); omega), fy.2 121 (by (try dsimp only); omega)]; exact d1'
          · show wt_ga q.2.2 41 (12 * l + i) = _
            rw [p41 _ (by omega), on]
          · rw [on]; exact wt_lm1
        · show (wt_ga q.2.2 41 (12 * l + i)).toInt = -1
          rw [p41 _ (by omega)]; exact wt_lm1
      · show wt_ga q.2.2 43 g = _
        rw [p43 g hg]
        exact wt_eqI ((ap1 g hg).trans wt_lm1.symm).symm
