/-- what tongue leaves, on both sides -/
def wt_TE (z q y : wt_St) : Prop := wt_TO q y ∧ (wt_gf q 34 4 = 0 ∧ wt_gf q 39 8 = 0 ∧ wt_gf q 0 14 = 0) ∧ (∀ k, k < 312 → wt_ga q 41 k = -1) ∧ (∀ g, g < 4 → wt_ga q 43 g = -1) ∧ (wt_gf y 108 39 = 0 ∧ wt_gf y 108 40 = 0 ∧ wt_gf y 108 41 = 0) ∧ wt_apA z y
theorem wt_TE_fr {z z' q y : wt_St} {F : Nat → Nat → Prop} {A : Nat → Prop} (h : wt_TE z' q y) (f : wt_fr F A z z') (h1 : ∀ i, i = 124 ∨ (275 ≤ i ∧ i < 282) → ¬ A i) : wt_TE z q y := ⟨h.1, h.2.1, h.2.2.1, h.2.2.2.1, h.2.2.2.2.1, wt_apA_fr h.2.2.2.2.2 f h1⟩
set_option maxRecDepth 100000 in
set_option maxHeartbeats 4000000 in
theorem wr_tongueEnd (n : Nat) {s z : wt_St} {W G : Nat} (gr : wt_gr W 0 G s z) (h5 : wt_gf z 108 5 = 0) : wt_HH ((wp_tg_become n 20 27 s).bind fun q6 => (wp_st_clearPages n 39 (wt_sf (wt_sf q6 34 4 (0 : Int32)) 39 8 (0 : Int32))).bind fun q7 => some ((0 : Nat), (wt_gf (wt_sf q7 0 14 (0 : Int32)) 20 6), (wt_sf q7 0 14 (0 : Int32)))) (wp_md_tongue_B134 n z) (fun q y => q.1 = 0 ∧ q.2.1 = y.1 ∧ wt_gf y.2 108 0 = wt_gf z 108 0 ∧ wt_gf q.2.2 1 7 = wt_gf y.2 108 3 ∧ wt_TE z q.2.2 y.2) := by
  obtain ⟨⟨A1, A2, A3⟩, ⟨B1, B2, B3⟩, C, D, EW, PL⟩ := gr
  refine wt_HH_l (wh_tgbecome n) (fun q6 h6 => ?_)
  obtain ⟨f6, b1, b2, b3, b4, b5⟩ := h6
  obtain ⟨s1, δ1⟩ : ∃ o : wt_St, o = wt_sf q6 34 4 (0 : Int32) := ⟨_, rfl⟩
  rw [← δ1]
  obtain ⟨s2, δ2⟩ : ∃ o : wt_St, o = wt_sf s1 39 8 (0 : Int32) := ⟨_, rfl⟩
  rw [← δ2]
  have d1 := wt_fr_sf δ1
  have d2 := wt_fr_sf δ2
  unfold wp_st_clearPages
  simp only [Option.bind_assoc]
  refine wt_HH_l (wh_fillRow n (a := 41)) (fun s3 h3 => ?_)
  obtain ⟨f3, c3⟩ := h3
  refine wt_HH_l (wh_fillRow n (a := 43)) (fun s4 h4 => ?_)
  obtain ⟨f4, c4⟩ := h4
  rw [show wt_ln 41 = 312 from by decide] at c3
  rw [show wt_ln 43 = 4 from by decide] at c4
  show wt_HH (some ((0 : Nat), (wt_gf (wt_sf s4 0 14 (0 : Int32)) 20 6), (wt_sf s4 0 14 (0 : Int32)))) _ _
  obtain ⟨s5, δ5⟩ : ∃ o : wt_St, o = wt_sf s4 0 14 (0 : Int32) := ⟨_, rfl⟩
  rw [← δ5]
  have d5 := wt_fr_sf δ5
  have T : wt_fr (fun i k => (i = 34 ∧ k = 4) ∨ (i = 39 ∧ k = 8) ∨ (i = 0 ∧ k = 14)) (fun i => i = 41 ∨ i = 43) q6 s5 := (wt_fr.tr (wt_fr.tr ((wt_fr.rf.sf δ1 (by first | decide | ((try dsimp only); omega))).sf δ2 (by first | decide | ((try dsimp only); omega))) f3 (fun i k h => h.elim) (fun i h => by (try dsimp only at h); omega)) f4 (fun i k h => h.elim) (fun i h => by (try dsimp only at h); omega)).sf δ5 (by first | decide | ((try dsimp only); omega))
  refine wt_HH_of (P := fun q => q = ((0 : Nat), (wt_gf s5 20 6), s5)) (wt_H_some rfl) (wh_tongueEnd n (W := W) h5 A2 A3) (fun q y hq hy => ?_)
  obtain ⟨e1, fy, ey, e3, e28, e30, e39, e40, e41, ap⟩ := hy
  subst hq
  dsimp only
  refine ⟨rfl, ?_, fy.1 108 0 (by (try dsimp only); omega), ?_, ⟨W, G, ⟨?_, ?_, A3⟩, ⟨?_, ?_, by omega⟩, fun w hw => ?_, ⟨fun g hg => ?_, fun w hw => ?_⟩⟩, ⟨?_, ?_, wt_v_sf δ5⟩, fun k hk => ?_, fun g hg => ?_, ⟨e39, e40, e41⟩, ap⟩
  · rw [T.1 20 6 (by decide), b4, e1]
    exact wt_eqI (A1.trans A2.symm)
  · rw [T.1 1 7 (by decide), f6.1 1 7 (by decide), e3]; exact PL
  · rw [T.1 20 6 (by decide), b4]; exact A1
  · rw [e28]; exact A2
  · rw [T.1 20 7 (by decide), b5]; exact B1
  · rw [e30]; omega
  · show wt_ga s5 22 w = wt_ga y.2 126 w ∧ wt_ga s5 23 w = wt_ga y.2 128 w ∧ wt_ga s5 24 w = wt_ga y.2 130 w ∧ (1 ≤ (wt_ga s5 22 w).toInt ∧ (wt_ga s5 22 w).toInt ≤ 9) ∧ (0 ≤ (wt_ga s5 23 w).toInt ∧ (wt_ga s5 23 w).toInt ≤ 3) ∧ ∀ i : Nat, (i : Int) < (wt_ga s5 22 w).toInt → wt_ga s5 21 (9 * w + i) = wt_ga y.2 (193 + w) i ∧ 0 ≤ (wt_ga s5 21 (9 * w + i)).toInt ∧ (wt_ga s5 21 (9 * w + i)).toInt ≤ 25
    obtain ⟨y1, y2, y3, y4⟩ := ey w hw
    rw [T.2 22 (by decide), T.2 23 (by decide), T.2 24 (by decide), b2 22 (by omega) (by omega) w (by omega), b2 23 (by omega) (by omega) w (by omega), b2 24 (by omega) (by omega) w (by omega), y1, y2, y3]
    obtain ⟨r1, r2, r3, r4, r5, r6⟩ := C w (by omega)
    refine ⟨r1, r2, r3, r4, r5, fun i hi => ?_⟩
    have hi' : (i : Int) < (wt_ga s 29 w).toInt := hi
    have r4' : 1 ≤ (wt_ga s 29 w).toInt ∧ (wt_ga s 29 w).toInt ≤ 9 := r4
    rw [T.2 21 (by decide), b1 (9 * w + i) (by omega), y4 i (by omega)]
    exact r6 i hi
  · show ∃ f m : Nat, (wt_ga s5 25 g).toInt = (f : Int) ∧ (wt_ga s5 26 g).toInt = (m : Int) ∧ 1 ≤ m ∧ m ≤ 5 ∧ f + m ≤ W ∧ ∀ w, w < W → ((wt_ga s5 24 w).toInt = (g : Int) ↔ f ≤ w ∧ w < f + m)
    rw [T.2 25 (by decide), T.2 26 (by decide), b3 25 (by omega) (by omega) g (by omega), b3 26 (by omega) (by omega) g (by omega)]
    obtain ⟨f, m, m1, m2, m3, m4, m5, m6⟩ := D.1 g hg
    refine ⟨f, m, m1, m2, m3, m4, m5, fun w hw => ?_⟩
    rw [T.2 24 (by decide), b2 24 (by omega) (by omega) w (by omega)]
    exact m6 w hw
  · show 0 ≤ (wt_ga s5 24 w).toInt ∧ (wt_ga s5 24 w).toInt < (G : Int)
    rw [T.2 24 (by decide), b2 24 (by omega) (by omega) w (by omega)]
    exact D.2 w hw
  · rw [d5.1 34 4 (by decide), f4.1 34 4 (fun h => h), f3.1 34 4 (fun h => h), d2.1 34 4 (by decide)]; exact wt_v_sf δ1
  · rw [d5.1 39 8 (by decide), f4.1 39 8 (fun h => h), f3.1 39 8 (fun h => h)]; exact wt_v_sf δ2
  · rw [d5.2 41 (fun h => h), f4.2 41 (by decide)]; exact c3 k hk
  · rw [d5.2 43 (fun h => h)]; exact c4 g hg
set_option maxRecDepth 100000 in
set_option maxHeartbeats 8000000 in
/-- tongue on both sides: both refuse, or both answer alike; and then the same words stand, or nothing of either has been taken over -/
theorem wr_tongue (n : Nat) (hn : 4294967297 < n) {x1 : Int32} {s z : wt_St} (tb : wt_TB s z) (rz : wt_RI z) : wt_HH (wp_ap_tongue n x1 s) (wp_md_tongue n x1 z) (fun q y => (q.1 = 1 ∧ wt_gf y.2 108 0 = 1 ∧ q.2.2 = s ∧ wt_fr (fun i k => i = 108 ∧ k = 0) (fun _ => False) z y.2) ∨ (q.1 = 0 ∧ wt_gf y.2 108 0 = 0 ∧ q.2.1 = y.1 ∧ wt_gf q.2.2 1 7 = wt_gf y.2 108 3 ∧ ((q.2.1.toInt < 0 ∧ wt_fr (fun i k => (i = 1 ∧ 2 ≤ k) ∨ i = 27) (fun i => i = 3 ∨ (27 < i ∧ i < 34)) s q.2.2 ∧ wt_fr (fun i k => i = 108 ∧ (k = 27 ∨ k = 29 ∨ k < 8)) wt_gA z y.2) ∨ wt_TE z q.2.2 y.2))) := by
  have k0 : (0 : Int32).toInt = 0 := by decide
  have k10 : (10 : Int32).toInt = 10 := by decide
  have hz : 0 ≤ (wt_gf z 108 1).toInt ∧ (wt_gf z 108 1).toInt ≤ 500 := wt_R_gf rz 0 rfl
  unfold wp_md_tongue
  obtain ⟨z0, ε0⟩ : ∃ o : wt_St, o = wt_sf z 108 0 (0 : Int32) := ⟨_, rfl⟩
  rw [← ε0]
  have g0 := wt_fr_sf ε0
  have rz0 := wt_RI_fno rz ε0 (Or.inr (by decide))
  have e1 : wt_gf z0 108 1 = wt_gf z 108 1 := g0.1 108 1 (by (try dsimp only); omega)
  have t0 : wt_gf z0 108 0 = 0 := wt_v_sf ε0
  rw [e1]
  refine wt_HH_r (wh_in n) (fun q1 h1 => ?_)
  obtain ⟨h1a, h1b⟩ := h1
  rw [h1a]
  have BAD : wt_HH (wp_ap_tongue_B20 n x1 (1 : Int32) s) (wp_md_tongue_B23 n x1 (1 : Int32) z0) (fun q y => (q.1 = 1 ∧ wt_gf y.2 108 0 = 1 ∧ q.2.2 = s ∧ wt_fr (fun i k => i = 108 ∧ k = 0) (fun _ => False) z y.2) ∨ (q.1 = 0 ∧ wt_gf y.2 108 0 = 0 ∧ q.2.1 = y.1 ∧ wt_gf q.2.2 1 7 = wt_gf y.2 108 3 ∧ ((q.2.1.toInt < 0 ∧ wt_fr (fun i k => (i = 1 ∧ 2 ≤ k) ∨ i = 27) (fun i => i = 3 ∨ (27 < i ∧ i < 34)) s q.2.2 ∧ wt_fr (fun i k => i = 108 ∧ (k = 27 ∨ k = 29 ∨ k < 8)) wt_gA z y.2) ∨ wt_TE z q.2.2 y.2))) := by
    unfold wp_ap_tongue_B20 wp_md_tongue_B23
    refine wt_HH_l (wh_refuse1 n) (fun q hq => ?_)
    subst hq
    dsimp only
    rw [if_neg (by decide)]
    refine wt_HH_r (wh_bad1 n t0 (by decide)) (fun y hy => ?_)
    subst hy
    dsimp only
    rw [if_neg (by decide)]
    exact wt_HH_some (Or.inl ⟨rfl, wt_v_sf rfl, rfl, wt_fr.tr g0 (wt_fr_sf rfl) (fun i k h => h) (fun i h => h)⟩)
  have GOOD : 0 ≤ x1.toInt → x1.toInt ≤ (wt_gf z 108 1).toInt → wt_HH (wp_ap_tongue_B20 n x1 (0 : Int32) s) (wp_md_tongue_B23 n x1 (0 : Int32) z0) (fun q y => (q.1 = 1 ∧ wt_gf y.2 108 0 = 1 ∧ q.2.2 = s ∧ wt_fr (fun i k => i = 108 ∧ k = 0) (fun _ => False) z y.2) ∨ (q.1 = 0 ∧ wt_gf y.2 108 0 = 0 ∧ q.2.1 = y.1 ∧ wt_gf q.2.2 1 7 = wt_gf y.2 108 3 ∧ ((q.2.1.toInt < 0 ∧ wt_fr (fun i k => (i = 1 ∧ 2 ≤ k) ∨ i = 27) (fun i => i = 3 ∨ (27 < i ∧ i < 34)) s q.2.2 ∧ wt_fr (fun i k => i = 108 ∧ (k = 27 ∨ k = 29 ∨ k < 8)) wt_gA z y.2) ∨ wt_TE z q.2.2 y.2))) := by
    intro hx0 hx1
    have en := wt_tnI hx0
    unfold wp_ap_tongue_B20 wp_md_tongue_B23
    refine wt_HH_l (wh_refuse0 n) (fun q hq => ?_)
    subst hq
    dsimp only
    rw [if_pos rfl]
    refine wt_HH_r (wh_bad0 n t0) (fun y hy => ?_)
    subst hy
    dsimp only
    rw [if_pos rfl]
    refine wt_HH_l (wh_begin n (β := fun j => wt_ga s 2 j) hx0 (by omega) (fun _ _ => rfl)) (fun s6 hs6 => ?_)
    obtain ⟨tv, e17, -, -, fb⟩ := hs6
    refine wt_HH_r ((wh_starts n (β := fun j => wt_ga s 2 j) (z0 := z0) hx0 (by omega) (fun j hj => by rw [g0.2 109 (fun h => h)]; exact (tb.1 j hj).symm)).and (wq_md_starts n hn x1 z0 rz0 hx0 (by omega)).h) (fun z7 hz7 => ?_)
    obtain ⟨⟨j, rj, rv7, h5, h6, h7, g7⟩, -, rz7, -⟩ := hz7
    obtain ⟨z8, ε8⟩ : ∃ o : wt_St, o = wt_sf z7 108 27 (0 : Int32) := ⟨_, rfl⟩
    rw [← ε8]
    obtain ⟨z9, ε9⟩ : ∃ o : wt_St, o = wt_sf z8 108 29 (0 : Int32) := ⟨_, rfl⟩
    rw [← ε9]
    have rz8 := wt_RI_fin rz7 ε8 5 rfl rfl (show 0 ≤ ((0 : Int32)).toInt by omega) (show ((0 : Int32)).toInt ≤ 60 by omega)
    have rz9 := wt_RI_fno rz8 ε9 (Or.inr (by decide))
    have p9 := wt_fr_sf ε9
    have G89 : wt_fr (fun i k => i = 108 ∧ (k = 27 ∨ k = 29)) (fun _ => False) z7 z9 := (wt_fr.rf.sf ε8 (by first | decide | ((try dsimp only); omega))).sf ε9 (by first | decide | ((try dsimp only); omega))
    rw [wt_tL_fac]
    have FC : wt_H (wp_tg_fill n 27 s6) (fun q => wt_fr (fun i k => (i = 1 ∧ 2 ≤ k) ∨ i = 27) (fun i => i = 3 ∨ (27 < i ∧ i < 34)) s q.2) := (wq_tg_fill n hn 27 s6).h.imp (fun q hq => wt_fr.tr (wt_frw fb (fun i k h => Or.inl h) (fun i h => h.elim)) hq (fun i k h => by (try dsimp only at h); omega) (fun i h => by (try dsimp only at h); omega))
    refine wt_HH_b (P := fun q y => ((q.1 = 0 ∧ wt_ft q.2 y) ∨ (q.1 = 1 ∧ wt_gf y 108 5 = 0 ∧ ∃ W G, wt_gr W 0 G q.2 y)) ∧ (wt_RI y ∧ wt_fr wt_gF wt_gA z9 y) ∧ wt_fr (fun i k => (i = 1 ∧ 2 ≤ k) ∨ i = 27) (fun i => i = 3 ∨ (27 < i ∧ i < 34)) s q.2) ?_ (fun a b hab => ?_)
    · refine fun a b ha hb => ⟨?_, wh_tL n n hn rz9 b hb, FC a ha⟩
      have HF : wt_HH (wp_tg_fill n 27 s6) (wt_it (wt_tL n) n z9) (fun q y => (q.1 = 0 ∧ wt_ft q.2 y) ∨ (q.1 = 1 ∧ wt_gf y 108 5 = 0 ∧ ∃ W G, wt_gr W 0 G q.2 y)) := by
        unfold wp_tg_fill
        obtain ⟨s7, δ7⟩ : ∃ o : wt_St, o = wt_sf s6 27 6 (0 : Int32) := ⟨_, rfl⟩
        rw [← δ7]
        obtain ⟨s8, δ8⟩ : ∃ o : wt_St, o = wt_sf s7 27 7 (0 : Int32) := ⟨_, rfl⟩
        rw [← δ8]
        have d8 := wt_fr_sf δ8
        have T : wt_fr (fun i k => i = 27) (fun _ => False) s6 s8 := (wt_fr.rf.sf δ7 (by decide)).sf δ8 (by decide)
        refine wr_tongueLoop n n n hn (wt_tv_fr tv T (fun h => h) (by decide) (by decide)) rj (wt_rv_fr rv7 G89 (fun h => h) (by decide) (by decide)) ((G89.1 108 5 (by decide)).trans h5) ⟨⟨?_, ?_, by omega⟩, ⟨?_, ?_, by omega⟩, fun w hw => absurd hw (by omega), ⟨fun g hg => absurd hg (by omega), fun w hw => absurd hw (by omega)⟩, fun w h1 h2 => absurd h2 (by omega), ?_⟩
        · rw [d8.1 27 6 (by decide), wt_v_sf δ7]; exact k0
        · rw [p9.1 108 27 (by decide), wt_v_sf ε8]; exact k0
        · rw [wt_v_sf δ8]; exact k0
        · rw [wt_v_sf ε9]; exact k0
        · rw [T.1 1 7 (by decide), G89.1 108 6 (by decide), e17, h6]
      exact HF a b ha hb
    · obtain ⟨hab, ⟨rb, gb⟩, fc⟩ := hab
      have FZ : wt_fr (fun i k => i = 108 ∧ (k = 27 ∨ k = 29 ∨ k < 8)) wt_gA z b := wt_fr.tr (wt_fr.tr (wt_fr.tr (wt_frw g0 (fun i k h => by (try dsimp only at h); omega) (fun i h => h.elim)) g7 (fun i k h => by (try dsimp only at h); omega) (fun i h => h.elim)) G89 (fun i k h => by (try dsimp only at h); omega) (fun i h => h.elim)) gb (fun i k h => by unfold wt_gF at h; omega) (fun i h => h)
      have hb0 : wt_gf b 108 0 = 0 := by rw [gb.1 108 0 (by unfold wt_gF; omega), G89.1 108 0 (by decide), g7.1 108 0 (by (try dsimp only); omega)]; exact t0
      have h53 : 0 ≤ (wt_gf b 108 5).toInt ∧ (wt_gf b 108 5).toInt ≤ 3 := wt_R_gf rb 3 rfl
      rcases hab with ⟨a1, f, p, hf, fl, fm⟩ | ⟨a1, b5, W, G, gr⟩
      · rw [if_pos a1]
        unfold wp_md_tongue_B134
        obtain ⟨zA, εA⟩ : ∃ o : wt_St, o = wt_sf b 108 3 (wt_gf b 108 6) := ⟨_, rfl⟩
        rw [← εA]
        have gA := wt_fr_sf εA
        have e95 : wt_gf zA 108 5 = wt_gf b 108 5 := gA.1 108 5 (by (try dsimp only); omega)
        have e65 : wt_gf a.2 1 6 = wt_gf b 108 5 := wt_eqI (fl.1.trans fm.1.symm)
        have es := wt_subE (x := wt_gf b 108 5) (y := (10 : Int32)) (by omega) (by omega)
        rw [if_neg (by rw [e95]; exact wt_frt_nz fm hf), e95, e65]
        refine wt_HH_some (Or.inr ⟨rfl, (gA.1 108 0 (by (try dsimp only); omega)).trans hb0, rfl, ?_, Or.inl ⟨?_, fc, FZ.sf εA (by first | decide | ((try dsimp only); omega))⟩⟩)
        · show wt_gf a.2 1 7 = wt_gf zA 108 3
          rw [wt_v_sf εA]
          exact wt_eqI (fl.2.trans fm.2.symm)
        · show ((wt_gf b 108 5) - (10 : Int32)).toInt < 0
          omega
      · rw [if_neg (by rw [a1]; decide)]
        exact (wr_tongueEnd n gr b5).imp (fun q y hq => Or.inr ⟨hq.1, hq.2.2.1.trans hb0, hq.2.1, hq.2.2.2.1, Or.inr (wt_TE_fr hq.2.2.2.2 FZ (fun i h => by unfold wt_gA; omega))⟩)
  unfold wp_ap_tongue wp_ap_tongue_B15
  have ts := wt_ceq tb.2
  rcases h1b with ⟨c1, c2⟩ | ⟨c1, c2, c3⟩
  · rw [if_pos c1]
    refine wt_HH_il (fun d => BAD) (fun d => ?_)
    have d' := wt_ncl d
    refine wt_HH_il (fun f => ?_) (fun f => BAD)
    have f' := wt_cle f
    omega
  · rw [if_neg (show ¬ x1 < 0 from fun d => by have := wt_clt d; omega), if_pos (Int32.le_iff_toInt_le.mpr (by omega)), if_neg (by rw [c1]; decide)]
    exact GOOD (by omega) c3
