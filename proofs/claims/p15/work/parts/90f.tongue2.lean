def wt_gF (i k : Nat) : Prop := i = 108 ∧ (k = 27 ∨ k = 29 ∨ k = 4 ∨ k = 5 ∨ k = 6)
def wt_gA (i : Nat) : Prop := i = 125 ∨ i = 127 ∨ i = 129 ∨ (132 ≤ i ∧ i < 192)
set_option maxHeartbeats 4000000 in
theorem wh_gL (n m : Nat) (hn : 4294967297 < n) {z : Int32 × wt_St} (r : wt_RI z.2) (i1 : 0 ≤ z.1.toInt) (i2 : z.1.toInt ≤ 6) (i3 : z.1.toInt = 6 → (wt_gf z.2 108 5).toInt ≠ 0) : wt_H (wt_it (wt_gL n) m z) (fun y => wt_RI y.2 ∧ wt_fr wt_gF wt_gA z.2 y.2) := by
  have k0 : (0 : Int32).toInt = 0 := by decide
  refine wt_H_it (fun s : Int32 × wt_St => wt_RI s.2 ∧ wt_fr wt_gF wt_gA z.2 s.2 ∧ 0 ≤ s.1.toInt ∧ s.1.toInt ≤ 6 ∧ (s.1.toInt = 6 → (wt_gf s.2 108 5).toInt ≠ 0)) (fun K s I hK => ?_) m z ⟨r, wt_fr.rf, i1, i2, i3⟩
  obtain ⟨rs, fs, i1, i2, i3⟩ := I
  unfold wt_gL
  refine wt_H_if (fun h3 => ?_) (fun h3 => wt_H_some ⟨rs, fs⟩)
  have c3 := wt_ceq h3
  have i5 : s.1.toInt ≤ 5 := by
    by_cases h6 : s.1.toInt = 6
    · exact absurd (c3.trans k0) (i3 h6)
    · omega
  have g4 : 0 ≤ (wt_gf s.2 108 4).toInt ∧ (wt_gf s.2 108 4).toInt ≤ 500 := wt_R_gf rs 2 rfl
  have g2 : 0 ≤ (wt_gf s.2 108 2).toInt ∧ (wt_gf s.2 108 2).toInt ≤ 500 := wt_R_gf rs 1 rfl
  refine wt_H_bi (wq_md_byteAt n hn (wt_gf s.2 108 4) s.2 rs g4.1) (fun d hd => ?_)
  obtain ⟨ed, pd⟩ := hd
  rw [ed]
  refine wt_H_if (fun h4 => ?_) (fun h4 => wt_H_some ⟨rs, fs⟩)
  have c4 := wt_ceq h4
  have k44 : (44 : Int32).toInt = 44 := by decide
  have e4 := wt_i1 (c := wt_gf s.2 108 4) (by omega)
  obtain ⟨s8, ε8⟩ : ∃ o : wt_St, o = wt_sf s.2 108 4 ((wt_gf s.2 108 4) + (1 : Int32)) := ⟨_, rfl⟩
  rw [← ε8]
  have r8 := wt_RI_fin rs ε8 2 rfl rfl (show 0 ≤ ((wt_gf s.2 108 4) + (1 : Int32)).toInt by omega) (show ((wt_gf s.2 108 4) + (1 : Int32)).toInt ≤ 500 by omega)
  have f8 : wt_fr wt_gF wt_gA z.2 s8 := fs.sf ε8 (by unfold wt_gF; omega)
  refine wt_H_bi (wq_md_reads n hn s.1 s8 r8 i1 i5) (fun a3 ha3 => ?_)
  obtain ⟨fa3, ra3, pa3, -⟩ := ha3
  refine wt_H_bi (wq_md_blanks n hn a3 ra3) (fun a4 ha4 => ?_)
  obtain ⟨fa4, ra4, -⟩ := ha4
  have ei := wt_i1 (c := s.1) (by omega)
  refine hK _ ⟨ra4, wt_fr.tr (wt_fr.tr f8 fa3 (fun i k h => by unfold wt_gF; (try dsimp only at h); omega) (fun i h => by unfold wt_gA; (try dsimp only at h); omega)) fa4 (fun i k h => by unfold wt_gF; (try dsimp only at h); omega) (fun i h => h.elim), (show 0 ≤ (s.1 + (1 : Int32)).toInt by omega), (show (s.1 + (1 : Int32)).toInt ≤ 6 by omega), fun h => ?_⟩
  have h' : (s.1 + (1 : Int32)).toInt = 6 := h
  show (wt_gf a4 108 5).toInt ≠ 0
  rw [fa4.1 108 5 (by (try dsimp only); omega)]
  exact pa3 (by omega)
set_option maxHeartbeats 4000000 in
theorem wh_tL (n m : Nat) (hn : 4294967297 < n) {z : wt_St} (r : wt_RI z) : wt_H (wt_it (wt_tL n) m z) (fun y => wt_RI y ∧ wt_fr wt_gF wt_gA z y) := by
  have k0 : (0 : Int32).toInt = 0 := by decide
  have k1 : (1 : Int32).toInt = 1 := by decide
  refine wt_H_it (fun y : wt_St => wt_RI y ∧ wt_fr wt_gF wt_gA z y) (fun K y hy hK => ?_) m z ⟨r, wt_fr.rf⟩
  unfold wt_tL wt_gB
  refine wt_H_if (fun _ => wt_H_if (fun _ => wt_H_some hy) (fun _ => ?_)) (fun _ => wt_H_some hy)
  simp only [Option.bind_assoc]
  refine wt_H_bi (wq_md_reads n hn (0 : Int32) y hy.1 (by omega) (by omega)) (fun a ha => ?_)
  obtain ⟨fa, ra, -⟩ := ha
  refine wt_H_bi (wq_md_blanks n hn a ra) (fun b hb => ?_)
  obtain ⟨fb, rb, -⟩ := hb
  have e01 : ((0 : Int32) + (1 : Int32)) = (1 : Int32) := by decide
  rw [e01]
  refine wt_H_bh (wh_gL n n hn (z := ((1 : Int32), b)) rb (by show 0 ≤ ((1 : Int32)).toInt; omega) (by show ((1 : Int32)).toInt ≤ 6; omega) (fun h => absurd (show ((1 : Int32)).toInt = 6 from h) (by omega))) (fun c hc => ?_)
  obtain ⟨rc, fc⟩ := hc
  refine wt_H_bi (wq_md_closes n hn (59 : Int32) c.2 rc (by decide)) (fun d hd => ?_)
  obtain ⟨fd, rd, -⟩ := hd
  refine wt_H_bi (wq_md_blanks n hn d rd) (fun f hf => ?_)
  obtain ⟨ff, rf, -⟩ := hf
  exact hK f ⟨rf, wt_fr.tr (wt_fr.tr (wt_fr.tr (wt_fr.tr (wt_fr.tr hy.2 fa (fun i k h => by unfold wt_gF; (try dsimp only at h); omega) (fun i h => by unfold wt_gA; (try dsimp only at h); omega)) fb (fun i k h => by unfold wt_gF; (try dsimp only at h); omega) (fun i h => h.elim)) fc (fun i k h => h) (fun i h => h)) fd (fun i k h => by unfold wt_gF; (try dsimp only at h); omega) (fun i h => h.elim)) ff (fun i k h => by unfold wt_gF; (try dsimp only at h); omega) (fun i h => h.elim)⟩
theorem wt_apA_fr {z s q : wt_St} {F : Nat → Nat → Prop} {A : Nat → Prop} (h : wt_apA s q) (f : wt_fr F A z s) (h1 : ∀ i, i = 124 ∨ (275 ≤ i ∧ i < 282) → ¬ A i) : wt_apA z q := by
  refine ⟨h.1, fun g hg hne k hk => ?_, fun c hc => ?_⟩
  · rw [← f.2 (278 + g) (h1 _ (by omega))]
    exact h.2.1 g hg (by rw [f.2 275 (h1 _ (by omega))]; exact hne) k (by rw [f.2 276 (h1 _ (by omega))]; exact hk)
  · rw [h.2.2 c (fun g hg hne k hk => by
      rw [f.2 (278 + g) (h1 _ (by omega))]
      rw [f.2 276 (h1 _ (by omega))] at hk
      rw [f.2 275 (h1 _ (by omega))] at hne
      exact hc g hg hne k hk)]
    exact f.2 124 (h1 _ (by omega)) c
/-- the tongue that stands, on both sides -/
def wt_TO (s z : wt_St) : Prop := ∃ W G : Nat, ((wt_gf s 20 6).toInt = (W : Int) ∧ (wt_gf z 108 28).toInt = (W : Int) ∧ W ≤ 60) ∧ ((wt_gf s 20 7).toInt = (G : Int) ∧ (wt_gf z 108 30).toInt = (G : Int) ∧ G ≤ 20) ∧ wt_tt 20 126 128 130 193 W s z ∧ wt_gs 20 W G s
set_option maxRecDepth 100000 in
set_option maxHeartbeats 4000000 in
/-- the reference takes the tongue over -/
theorem wh_tongueEnd (n : Nat) {z : wt_St} {W : Nat} (h0 : wt_gf z 108 5 = 0) (hW : (wt_gf z 108 27).toInt = (W : Int)) (hW6 : W ≤ 60) : wt_H (wp_md_tongue_B134 n z) (fun q => q.1 = wt_gf z 108 27 ∧ wt_fr (fun i k => i = 108 ∧ (k = 3 ∨ k = 28 ∨ k = 30 ∨ k = 39 ∨ k = 40 ∨ k = 41)) (fun i => i = 126 ∨ i = 128 ∨ i = 130 ∨ (193 ≤ i ∧ i < 253) ∨ i = 124 ∨ i = 275) z q.2 ∧ (∀ w, w < W → wt_ga q.2 126 w = wt_ga z 125 w ∧ wt_ga q.2 128 w = wt_ga z 127 w ∧ wt_ga q.2 130 w = wt_ga z 129 w ∧ ∀ k, k < 9 → wt_ga q.2 (193 + w) k = wt_ga z (132 + w) k) ∧ wt_gf q.2 108 3 = wt_gf z 108 6 ∧ wt_gf q.2 108 28 = wt_gf z 108 27 ∧ wt_gf q.2 108 30 = wt_gf z 108 29 ∧ wt_gf q.2 108 39 = 0 ∧ wt_gf q.2 108 40 = 0 ∧ wt_gf q.2 108 41 = 0 ∧ wt_apA z q.2) := by
  have k0 : (0 : Int32).toInt = 0 := by decide
  have k9 : (9 : Int32).toInt = 9 := by decide
  unfold wp_md_tongue_B134
  obtain ⟨s1, ε1⟩ : ∃ o : wt_St, o = wt_sf z 108 3 (wt_gf z 108 6) := ⟨_, rfl⟩
  rw [← ε1]
  have f1 := wt_fr_sf ε1
  have e5 : wt_gf s1 108 5 = wt_gf z 108 5 := f1.1 108 5 (by decide)
  have e27 : wt_gf s1 108 27 = wt_gf z 108 27 := f1.1 108 27 (by decide)
  rw [e5, if_pos h0, e27]
  obtain ⟨s2, ε2⟩ : ∃ o : wt_St, o = wt_sf s1 108 28 (wt_gf z 108 27) := ⟨_, rfl⟩
  rw [← ε2]
  have f2 := wt_fr_sf ε2
  have e29 : wt_gf s2 108 29 = wt_gf z 108 29 := (f2.1 108 29 (by decide)).trans (f1.1 108 29 (by decide))
  rw [e29]
  obtain ⟨s3, ε3⟩ : ∃ o : wt_St, o = wt_sf s2 108 30 (wt_gf z 108 29) := ⟨_, rfl⟩
  rw [← ε3]
  have f3 := wt_fr_sf ε3
  have F3 : wt_fr (fun i k => i = 108 ∧ (k = 3 ∨ k = 28 ∨ k = 30)) (fun _ => False) z s3 := ((wt_fr.rf.sf ε1 (by first | decide | ((try dsimp only); omega))).sf ε2 (by first | decide | ((try dsimp only); omega))).sf ε3 (by first | decide | ((try dsimp only); omega))
  have v28 : wt_gf s3 108 28 = wt_gf z 108 27 := (f3.1 108 28 (by decide)).trans (wt_v_sf ε2)
  refine wt_H_it (fun t : Int32 × wt_St => 0 ≤ t.1.toInt ∧ wt_fr (fun _ _ => False) (fun i => i = 126 ∨ i = 128 ∨ i = 130 ∨ (193 ≤ i ∧ i < 253)) s3 t.2 ∧ ∀ w : Nat, (w : Int) < t.1.toInt → wt_ga t.2 126 w = wt_ga z 125 w ∧ wt_ga t.2 128 w = wt_ga z 127 w ∧ wt_ga t.2 130 w = wt_ga z 129 w ∧ ∀ k, k < 9 → wt_ga t.2 (193 + w) k = wt_ga z (132 + w) k) (fun K t I hK => ?_) n _ ⟨by show 0 ≤ ((0 : Int32)).toInt; omega, wt_fr.rf, fun k hk => absurd (show (k : Int) < ((0 : Int32)).toInt from hk) (by omega)⟩
  obtain ⟨i0, ft, i1⟩ := I
  have et := wt_tnI i0
  unfold wp_md_tongue_B175
  rw [ft.1 108 28 (fun h => h), v28]
  refine wt_H_if (fun c => ?_) (fun c => ?_)
  · have c' := wt_cle c
    obtain ⟨u1, δ1⟩ : ∃ o : wt_St, o = wt_sf t.2 108 39 (0 : Int32) := ⟨_, rfl⟩
    rw [← δ1]
    obtain ⟨u2, δ2⟩ : ∃ o : wt_St, o = wt_sf u1 108 40 (0 : Int32) := ⟨_, rfl⟩
    rw [← δ2]
    obtain ⟨u3, δ3⟩ : ∃ o : wt_St, o = wt_sf u2 108 41 (0 : Int32) := ⟨_, rfl⟩
    rw [← δ3]
    have d2 := wt_fr_sf δ2
    have d3 := wt_fr_sf δ3
    have FU : wt_fr (fun i k => i = 108 ∧ (k = 3 ∨ k = 28 ∨ k = 30 ∨ k = 39 ∨ k = 40 ∨ k = 41)) (fun i => i = 126 ∨ i = 128 ∨ i = 130 ∨ (193 ≤ i ∧ i < 253)) z u3 := (((wt_fr.tr (wt_frw F3 (fun i k h => by (try dsimp only at h); omega) (fun i h => h.elim)) ft (fun i k h => h.elim) (fun i h => h)).sf δ1 (by first | decide | ((try dsimp only); omega))).sf δ2 (by first | decide | ((try dsimp only); omega))).sf δ3 (by first | decide | ((try dsimp only); omega))
    have FT : wt_fr (fun i k => i = 108 ∧ (k = 39 ∨ k = 40 ∨ k = 41)) (fun _ => False) t.2 u3 := ((wt_fr.rf.sf δ1 (by first | decide | ((try dsimp only); omega))).sf δ2 (by first | decide | ((try dsimp only); omega))).sf δ3 (by first | decide | ((try dsimp only); omega))
    refine (wh_pagesOff n).imp (fun q hq => ?_)
    obtain ⟨q1, fq, qa⟩ := hq
    refine ⟨?_, wt_fr.tr (wt_frw FU (fun i k h => h) (fun i h => by (try dsimp only at h); omega)) fq (fun i k h => h.elim) (fun i h => by (try dsimp only at h); omega), fun w hw => ?_, ?_, ?_, ?_, ?_, ?_, ?_, wt_apA_fr qa FU (fun i h => by (try dsimp only); omega)⟩
    · rw [q1, FT.1 108 28 (by decide), ft.1 108 28 (fun h => h)]; exact v28
    · rw [fq.2 126 (by decide), fq.2 128 (by decide), fq.2 130 (by decide), FT.2 126 (fun h => h), FT.2 128 (fun h => h), FT.2 130 (fun h => h)]
      obtain ⟨a1, a2, a3, a4⟩ := i1 w (by omega)
      refine ⟨a1, a2, a3, fun k hk => ?_⟩
      rw [fq.2 (193 + w) (by (try dsimp only); omega), FT.2 _ (fun h => h)]
      exact a4 k hk
    · rw [fq.1 108 3 (fun h => h), FT.1 108 3 (by decide), ft.1 108 3 (fun h => h), f3.1 108 3 (by decide), f2.1 108 3 (by decide)]
      exact wt_v_sf ε1
    · rw [fq.1 108 28 (fun h => h), FT.1 108 28 (by decide), ft.1 108 28 (fun h => h)]; exact v28
    · rw [fq.1 108 30 (fun h => h), FT.1 108 30 (by decide), ft.1 108 30 (fun h => h)]; exact wt_v_sf ε3
    · rw [fq.1 108 39 (fun h => h), d3.1 108 39 (by decide), d2.1 108 39 (by decide)]; exact wt_v_sf δ1
    · rw [fq.1 108 40 (fun h => h), d3.1 108 40 (by decide)]; exact wt_v_sf δ2
    · rw [fq.1 108 41 (fun h => h)]; exact wt_v_sf δ3
  · have c' := wt_ncle c
    have ei := wt_i1 (c := t.1) (by omega)
    refine wt_H_gd (fun _ => ?_)
    refine wt_H_gd (fun _ => ?_)
    refine wt_H_gd (fun _ => ?_)
    refine wt_H_gd (fun _ => ?_)
    refine wt_H_gd (fun _ => ?_)
    refine wt_H_gd (fun _ => ?_)
    obtain ⟨u1, δ1⟩ : ∃ o : wt_St, o = wt_sa t.2 126 (Int32.toNatClampNeg t.1) (wt_ga t.2 125 (Int32.toNatClampNeg t.1)) := ⟨_, rfl⟩
    rw [← δ1]
    obtain ⟨u2, δ2⟩ : ∃ o : wt_St, o = wt_sa u1 128 (Int32.toNatClampNeg t.1) (wt_ga u1 127 (Int32.toNatClampNeg t.1)) := ⟨_, rfl⟩
    rw [← δ2]
    obtain ⟨u3, δ3⟩ : ∃ o : wt_St, o = wt_sa u2 130 (Int32.toNatClampNeg t.1) (wt_ga u2 129 (Int32.toNatClampNeg t.1)) := ⟨_, rfl⟩
    rw [← δ3]
    have d1 := wt_fr_sa δ1
    have d2 := wt_fr_sa δ2
    have d3 := wt_fr_sa δ3
    have FU : wt_fr (fun _ _ => False) (fun i => i = 126 ∨ i = 128 ∨ i = 130 ∨ (193 ≤ i ∧ i < 253)) s3 u3 := ((ft.sa δ1 (by first | decide | ((try dsimp only); omega))).sa δ2 (by first | decide | ((try dsimp only); omega))).sa δ3 (by first | decide | ((try dsimp only); omega))
    have w126 : ∀ w : Nat, (w : Int) < (t.1 + (1 : Int32)).toInt → wt_ga u3 126 w = wt_ga z 125 w := fun w hw => by
      rw [d3.2 126 (by decide), d2.2 126 (by decide)]
      by_cases hc : w = Int32.toNatClampNeg t.1
      · rw [hc, wt_v_sa δ1, ft.2 125 (by decide)]; exact F3.2 125 (fun h => h) _
      · rw [wt_w_sa δ1 w hc]; exact (i1 w (by omega)).1
    have w128 : ∀ w : Nat, (w : Int) < (t.1 + (1 : Int32)).toInt → wt_ga u3 128 w = wt_ga z 127 w := fun w hw => by
      rw [d3.2 128 (by decide)]
      by_cases hc : w = Int32.toNatClampNeg t.1
      · rw [hc, wt_v_sa δ2, d1.2 127 (by decide), ft.2 127 (by decide)]; exact F3.2 127 (fun h => h) _
      · rw [wt_w_sa δ2 w hc, d1.2 128 (by decide)]; exact (i1 w (by omega)).2.1
    have w130 : ∀ w : Nat, (w : Int) < (t.1 + (1 : Int32)).toInt → wt_ga u3 130 w = wt_ga z 129 w := fun w hw => by
      by_cases hc : w = Int32.toNatClampNeg t.1
      · rw [hc, wt_v_sa δ3, d2.2 129 (by decide), d1.2 129 (by decide), ft.2 129 (by decide)]; exact F3.2 129 (fun h => h) _
      · rw [wt_w_sa δ3 w hc, d2.2 130 (by decide), d1.2 130 (by decide)]; exact (i1 w (by omega)).2.2.1
    refine wt_H_it (fun v : Int32 × wt_St => 0 ≤ v.1.toInt ∧ wt_fr (fun _ _ => False) (fun i => i = 193 + Int32.toNatClampNeg t.1) u3 v.2 ∧ ∀ k : Nat, (k : Int) < v.1.toInt → wt_ga v.2 (193 + Int32.toNatClampNeg t.1) k = wt_ga z (132 + Int32.toNatClampNeg t.1) k) (fun K2 v J hK2 => ?_) n _ ⟨by show 0 ≤ ((0 : Int32)).toInt; omega, wt_fr.rf, fun k hk => absurd (show (k : Int) < ((0 : Int32)).toInt from hk) (by omega)⟩
    obtain ⟨j0, fv, j1⟩ := J
    have ev := wt_tnI j0
    unfold wp_md_tongue_B221
    refine wt_H_if (fun d => ?_) (fun d => ?_)
    · have d' := wt_cle d
      refine hK _ ⟨by show 0 ≤ (t.1 + (1 : Int32)).toInt; omega, wt_fr.tr FU fv (fun i k h => h) (fun i h => by (try dsimp only at h); omega), fun w hw => ?_⟩
      have hw' : (w : Int) < (t.1 + (1 : Int32)).toInt := hw
      show wt_ga v.2 126 w = wt_ga z 125 w ∧ wt_ga v.2 128 w = wt_ga z 127 w ∧ wt_ga v.2 130 w = wt_ga z 129 w ∧ ∀ k, k < 9 → wt_ga v.2 (193 + w) k = wt_ga z (132 + w) k
      rw [fv.2 126 (by (try dsimp only); omega), fv.2 128 (by (try dsimp only); omega), fv.2 130 (by (try dsimp only); omega)]
      refine ⟨w126 w hw', w128 w hw', w130 w hw', fun k hk => ?_⟩
      by_cases hc : w = Int32.toNatClampNeg t.1
      · rw [hc]; exact j1 k (by omega)
      · rw [fv.2 (193 + w) (by (try dsimp only); omega), d3.2 (193 + w) (by (try dsimp only); omega), d2.2 (193 + w) (by (try dsimp only); omega), d1.2 (193 + w) (by (try dsimp only); omega)]
        exact (i1 w (by omega)).2.2.2 k hk
    · have d' := wt_ncle d
      have ej := wt_i1 (c := v.1) (by omega)
      refine wt_H_gd (fun _ => ?_)
      refine wt_H_gd (fun _ => ?_)
      refine wt_H_gd (fun _ => ?_)
      refine wt_H_gd (fun _ => ?_)
      obtain ⟨v1, δ⟩ : ∃ o : wt_St, o = wt_sa v.2 (193 + Int32.toNatClampNeg t.1) (Int32.toNatClampNeg v.1) (wt_ga v.2 (132 + Int32.toNatClampNeg t.1) (Int32.toNatClampNeg v.1)) := ⟨_, rfl⟩
      rw [← δ]
      refine hK2 _ ⟨by show 0 ≤ (v.1 + (1 : Int32)).toInt; omega, fv.sa δ rfl, fun k hk => ?_⟩
      have hk' : (k : Int) < (v.1 + (1 : Int32)).toInt := hk
      show wt_ga v1 _ k = _
      by_cases hc : k = Int32.toNatClampNeg v.1
      · rw [hc, wt_v_sa δ, fv.2 (132 + Int32.toNatClampNeg t.1) (by (try dsimp only); omega), FU.2 (132 + Int32.toNatClampNeg t.1) (by (try dsimp only); omega)]
        exact F3.2 _ (fun h => h) _
      · rw [wt_w_sa δ k hc]; exact j1 k (by omega)
