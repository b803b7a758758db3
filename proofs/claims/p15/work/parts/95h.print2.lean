theorem wu_min_le {N : Nat} {P : Nat → Prop} {f : Nat → Int} {v r x : Int} (h : wu_min N P f v r) (hx : x ≤ v) : x ≤ r ↔ ∀ c, c < N → P c → x ≤ f c := by
  obtain ⟨a, b, c⟩ := h
  constructor
  · intro hr c' hc hp
    have := c c' hc hp
    omega
  · intro hall
    rcases a with a | ⟨c', c1, c2, c3⟩
    · omega
    · have := hall c' c1 c2
      omega
theorem wu_pm1 {s z : wt_St} {g : Nat} (v : wt_IV z) (sc : wu_SC s z) (hg : g < 4) (st : (wt_ga z 275 g).toInt ≠ -1) (k : Nat) (hk : (k : Int) < (wt_ga z 276 g).toInt) : ∃ l i : Nat, l < 26 ∧ (i : Int) < (wt_ga z 111 l).toInt ∧ i < 12 ∧ Int32.toNatClampNeg (wt_ga z (278 + g) k) = 13 * l + i ∧ (wt_ga z 124 (13 * l + i)).toInt = (g : Int) ∧ (wt_ga s 41 (12 * l + i)).toInt = (g : Int) ∧ wt_ga s 40 (12 * l + i) = wt_ga z 121 (13 * l + i) ∧ wu_pp (wt_ga z (278 + g) k) = 12 * l + i ∧ (wt_ga s 42 (12 * l + i)).toInt = wt_ct (fun k' => (wt_ga z (278 + g) k').toInt / 13) (l : Int) k := by
  obtain ⟨-, -, sp, sg⟩ := sc
  obtain ⟨l, i, l1, l2, l3, l4, l5⟩ := ((sg g hg).2 st).1 k hk
  have m := v.2.1 l
  obtain ⟨a1, a2, -⟩ := (sp l l1).1 i l2
  have a2' : wt_ga s 41 (12 * l + i) = wt_ga z 124 (13 * l + i) := a2
  exact ⟨l, i, l1, l2, by omega, wt_tnN l3, l4, by rw [a2']; exact l4, a1, wu_pp_of l3 (by omega), l5⟩
theorem wu_pm2 {s z : wt_St} {g : Nat} (v : wt_IV z) (sc : wu_SC s z) (hg : g < 4) (st : (wt_ga z 275 g).toInt ≠ -1) (c : Nat) (hc : c < 312) (hp : (wt_ga s 41 c).toInt = (g : Int)) : ∃ l i k : Nat, l < 26 ∧ (i : Int) < (wt_ga z 111 l).toInt ∧ c = 12 * l + i ∧ (k : Int) < (wt_ga z 276 g).toInt ∧ Int32.toNatClampNeg (wt_ga z (278 + g) k) = 13 * l + i := by
  obtain ⟨-, -, sp, sg⟩ := sc
  have g4 := ((sg g hg).2 st).2
  have ec : c = 12 * (c / 12) + c % 12 := by omega
  have hl : c / 12 < 26 := by omega
  by_cases hi : ((c % 12 : Nat) : Int) < (wt_ga z 111 (c / 12)).toInt
  · obtain ⟨-, e, -⟩ := (sp (c / 12) hl).1 (c % 12) hi
    have e' : wt_ga s 41 (12 * (c / 12) + c % 12) = wt_ga z 124 (13 * (c / 12) + c % 12) := e
    rw [← ec] at e'
    obtain ⟨k, k1, k2⟩ := g4 (c / 12) (c % 12) hl hi (by rw [← e']; exact hp)
    exact ⟨c / 12, c % 12, k, hl, hi, ec, k1, wt_tnN k2⟩
  · have e := (sp (c / 12) hl).2 (c % 12) (by omega) (by omega)
    have e' : (wt_ga s 41 (12 * (c / 12) + c % 12)).toInt = -1 := e
    rw [← ec] at e'
    omega
theorem wu_pd {z : wt_St} {s : wt_St} {g : Nat} (v : wt_IV z) (sc : wu_SC s z) (hg : g < 4) (st : (wt_ga z 275 g).toInt ≠ -1) : ∀ k k' : Nat, k' < k → (k : Int) < (wt_ga z 276 g).toInt → Int32.toNatClampNeg (wt_ga z (278 + g) k') ≠ Int32.toNatClampNeg (wt_ga z (278 + g) k) := by
  intro k k' hk hk2 h
  obtain ⟨l, i, l1, l2, l3, -⟩ := ((sc.2.2.2 g hg).2 st).1 k hk2
  obtain ⟨l', i', m1, m2, m3, -⟩ := ((sc.2.2.2 g hg).2 st).1 k' (by omega)
  have l3' : (wt_ga z (278 + g) k).toInt = ((13 * l + i : Nat) : Int) := l3
  have m3' : (wt_ga z (278 + g) k').toInt = ((13 * l' + i' : Nat) : Int) := m3
  rw [wt_tnN l3', wt_tnN m3'] at h
  exact v.2.2.2.1 g hg k k' hk hk2 (wt_eqI (by omega))
set_option maxRecDepth 100000 in
set_option maxHeartbeats 8000000 in
theorem wr_press (n : Nat) (hn : 4294967297 < n) {x1 x2 : Int32} {s z z0 : wt_St} (v : wt_IV z) (g0 : wt_fr (fun i k => i = 108 ∧ k = 0) (fun _ => False) z z0) (v0 : wt_IV z0) (sc : wu_SC s z) (hx : 0 ≤ x1.toInt ∧ x1.toInt < 4) (st : (wt_ga z 275 (Int32.toNatClampNeg x1)).toInt ≠ -1) (h1 : 1 ≤ x2.toInt) (h4 : x2.toInt ≤ 400) : wt_HH ((wp_pg_press n x1 x2 s).bind fun q5 => some ((0 : Nat), q5.1, q5.2)) ((wp_md_leastOf n x1 z0).bind fun q9 => if x2 ≤ q9.1 then wt_it (wp_md_print_B64 n x1 x2) n ((0 : Int32), (0 : Int32), q9.2) else some ((-1 : Int32), q9.2)) (fun q y => q.1 = 0 ∧ wt_gf y.2 108 0 = wt_gf z0 108 0 ∧ q.2.1 = y.1 ∧ wu_SC q.2.2 y.2) := by
  have et := wt_tnI hx.1
  have scz : wu_SC s z0 := wu_SC_fr sc (wt_fr.rf (F := fun _ _ => False) (A := fun _ => False)) g0 (fun _ _ h => h) (fun k hk => by (try dsimp only); omega) (fun _ _ _ h => h) (fun _ _ h => h)
  have st0 : (wt_ga z0 275 (Int32.toNatClampNeg x1)).toInt ≠ -1 := by rw [g0.2 275 (fun h => h)]; exact st
  have hb : 0 ≤ (wt_ga z0 276 (Int32.toNatClampNeg x1)).toInt ∧ (wt_ga z0 276 (Int32.toNatClampNeg x1)).toInt ≤ 108 := wt_Ra13 v0.1 276 (by decide) (by decide) _
  have eK := wt_tnI hb.1
  have M1 := wu_pm1 v0 scz (g := Int32.toNatClampNeg x1) (by omega) st0
  have M2 := wu_pm2 v0 scz (g := Int32.toNatClampNeg x1) (by omega) st0
  have D := wu_pd v0 scz (g := Int32.toNatClampNeg x1) (by omega) st0
  unfold wp_pg_press
  refine wt_HH_lb (wh_leastLeftOn n hn) (fun q1 hq1 => ?_)
  obtain ⟨a1, m1⟩ := hq1
  rw [a1]
  refine wt_HH_r (wh_leastOf n (g := Int32.toNatClampNeg x1) (by omega) hb.2) (fun y1 hy1 => ?_)
  obtain ⟨a2, m2⟩ := hy1
  rw [a2]
  have iff : x2.toInt ≤ q1.1.toInt ↔ x2.toInt ≤ y1.1.toInt := by
    rw [wu_min_le m1 (by omega), wu_min_le m2 (by omega)]
    constructor
    · intro h k hk _
      obtain ⟨l, i, l1, l2, l3, l4, l5, l6, l7, -⟩ := M1 k (by omega)
      have := h (12 * l + i) (by omega) (by show (wt_ga s 41 (12 * l + i)).toInt = x1.toInt; omega)
      show x2.toInt ≤ (wt_ga z0 121 (Int32.toNatClampNeg (wt_ga z0 (278 + Int32.toNatClampNeg x1) k))).toInt
      rw [l4, ← l7]; exact this
    · intro h c hc hp
      have hp' : (wt_ga s 41 c).toInt = x1.toInt := hp
      obtain ⟨l, i, k, l1, l2, l3, l4, l5⟩ := M2 c hc (by omega)
      have := h k (by omega) trivial
      have this' : x2.toInt ≤ (wt_ga z0 121 (Int32.toNatClampNeg (wt_ga z0 (278 + Int32.toNatClampNeg x1) k))).toInt := this
      rw [l5] at this'
      have e := ((scz.2.2.1 l l1).1 i l2).1
      have e' : wt_ga s 40 (12 * l + i) = wt_ga z0 121 (13 * l + i) := e
      show x2.toInt ≤ (wt_ga s 40 c).toInt
      rw [l3, e']; exact this'
  by_cases hle : x2 ≤ q1.1
  · have hle' := wt_cle hle
    rw [if_pos hle, if_pos (Int32.le_iff_toInt_le.mpr (iff.mp hle'))]
    refine wt_HH_of (P := fun q : Nat × Int32 × wt_St => q.1 = 0 ∧ (wt_fr (fun _ _ => False) (fun i => i = 40) s q.2.2 ∧ (∀ c, c < 312 → wt_ga q.2.2 40 c = if (wt_ga s 41 c).toInt = x1.toInt then (wt_ga s 40 c) - x2 else wt_ga s 40 c) ∧ q.2.1.toInt = wt_sum (fun c => if (wt_ga s 41 c).toInt = x1.toInt then (if (wt_ga s 40 c) - x2 = 0 then 1 else 0) else 0) 312)) (wt_H_bh (wh_pressLoop n hn) (fun a ha => wt_H_some ⟨rfl, ha⟩)) (wh_printLoop n (g := Int32.toNatClampNeg x1) (by omega) (by omega) hb D) (fun q y hq hy => ?_)
    obtain ⟨q0, fq, cq, nq⟩ := hq
    obtain ⟨fy, cy, oy, ny⟩ := hy
    have em : wt_ga y.2 111 = wt_ga z0 111 := funext (fy.2 111 (by decide))
    have LF : ∀ l i : Nat, l < 26 → (i : Int) < (wt_ga z0 111 l).toInt → wt_ga q.2.2 40 (12 * l + i) = wt_ga y.2 121 (13 * l + i) := by
      intro l i hl hi
      have mm := v0.2.1 l
      obtain ⟨e1, e2, -⟩ := (scz.2.2.1 l hl).1 i hi
      have e1' : wt_ga s 40 (12 * l + i) = wt_ga z0 121 (13 * l + i) := e1
      have e2' : wt_ga s 41 (12 * l + i) = wt_ga z0 124 (13 * l + i) := e2
      rw [cq _ (by omega)]
      by_cases ho : (wt_ga s 41 (12 * l + i)).toInt = x1.toInt
      · rw [if_pos ho]
        obtain ⟨k, k1, k2⟩ := ((scz.2.2.2 _ (show Int32.toNatClampNeg x1 < 4 by omega)).2 st0).2 l i hl hi (by show (wt_ga z0 124 (13 * l + i)).toInt = _; rw [← e2']; omega)
        have := cy k k1
        rw [wt_tnN k2] at this
        rw [this, e1']
      · rw [if_neg ho, oy _ (fun k hk h => ?_)]
        · exact e1'
        · obtain ⟨l', i', l1, l2, l3, l4, l5, l6, -⟩ := M1 k hk
          rw [l4] at h
          have hl' : l' = l := by omega
          have hi' : i' = i := by omega
          rw [hl', hi'] at l6
          omega
    refine ⟨q0, fy.1 108 0 (fun h => h), wt_eqI ?_, ?_, ?_, fun l hl => ?_, fun g' hg' => ?_⟩
    · rw [nq, ny]
      have P := wu_pageSum v0 scz (g := Int32.toNatClampNeg x1) (by omega) st0 (fun c => if (wt_ga s 40 c) - x2 = 0 then 1 else 0)
      rw [et] at P
      rw [P]
      refine wt_sum_congr _ (fun k hk => ?_)
      obtain ⟨l, i, l1, l2, l3, l4, l5, l6, l7, l8, -⟩ := M1 k (by omega)
      show (if (wt_ga s 40 (wu_pp (wt_ga z0 (278 + Int32.toNatClampNeg x1) k))) - x2 = 0 then (1 : Int) else 0) = if (wt_ga z0 121 (Int32.toNatClampNeg (wt_ga z0 (278 + Int32.toNatClampNeg x1) k))) - x2 = 0 then 1 else 0
      rw [l8, l4, l7]
    · rw [fq.1 39 9 (fun h => h), fy.1 108 26 (fun h => h)]; exact wu_SC_SH scz
    · exact wu_SW_eq (wu_SC_SW scz) (by rw [fy.1 108 39 (fun h => h)]; exact Int.le_refl _) (fun i p q => fq.2 i (by (try dsimp only); omega)) (fq.1 39 8 (fun h => h)) (fun i p q => fy.2 i (by (try dsimp only); omega)) (fy.1 108 40 (fun h => h))
    · show (∀ i : Nat, (i : Int) < (wt_ga y.2 111 l).toInt → wt_ga q.2.2 40 (12 * l + i) = wt_ga y.2 121 (13 * l + i) ∧ wt_ga q.2.2 41 (12 * l + i) = wt_ga y.2 124 (13 * l + i) ∧ ((wt_ga y.2 124 (13 * l + i)).toInt = -1 ∨ ∃ g, g < 4 ∧ (wt_ga y.2 124 (13 * l + i)).toInt = ((g : Nat) : Int) ∧ (wt_ga y.2 275 g).toInt ≠ -1)) ∧ ∀ i : Nat, i < 12 → (wt_ga y.2 111 l).toInt ≤ (i : Int) → (wt_ga q.2.2 41 (12 * l + i)).toInt = -1
      rw [em, show wt_ga q.2.2 41 = wt_ga s 41 from funext (fq.2 41 (by decide)), show wt_ga y.2 124 = wt_ga z0 124 from funext (fy.2 124 (by decide)), show wt_ga y.2 275 = wt_ga z0 275 from funext (fy.2 275 (by decide))]
      obtain ⟨p1, p2⟩ := scz.2.2.1 l hl
      exact ⟨fun i hi => ⟨LF l i hl hi, (p1 i hi).2⟩, p2⟩
    · show wt_ga q.2.2 43 g' = wt_ga y.2 275 g' ∧ ((wt_ga y.2 275 g').toInt ≠ -1 → (∀ k : Nat, (k : Int) < (wt_ga y.2 276 g').toInt → ∃ l i : Nat, l < 26 ∧ (i : Int) < (wt_ga y.2 111 l).toInt ∧ (wt_ga y.2 (278 + g') k).toInt = ((13 * l + i : Nat) : Int) ∧ (wt_ga y.2 124 (13 * l + i)).toInt = (g' : Int) ∧ (wt_ga q.2.2 42 (12 * l + i)).toInt = wt_ct (fun k' => (wt_ga y.2 (278 + g') k').toInt / 13) (l : Int) k) ∧ ∀ l i : Nat, l < 26 → (i : Int) < (wt_ga y.2 111 l).toInt → (wt_ga y.2 124 (13 * l + i)).toInt = (g' : Int) → ∃ k : Nat, (k : Int) < (wt_ga y.2 276 g').toInt ∧ (wt_ga y.2 (278 + g') k).toInt = ((13 * l + i : Nat) : Int))
      rw [em, show wt_ga q.2.2 43 = wt_ga s 43 from funext (fq.2 43 (by decide)), show wt_ga q.2.2 42 = wt_ga s 42 from funext (fq.2 42 (by decide)), show wt_ga y.2 124 = wt_ga z0 124 from funext (fy.2 124 (by decide)), show wt_ga y.2 275 = wt_ga z0 275 from funext (fy.2 275 (by decide)), show wt_ga y.2 276 = wt_ga z0 276 from funext (fy.2 276 (by decide)), show wt_ga y.2 (278 + g') = wt_ga z0 (278 + g') from funext (fy.2 (278 + g') (by (try dsimp only); omega))]
      exact scz.2.2.2 g' hg'
  · have hle' := wt_ncle hle
    rw [if_neg hle, if_neg (fun h => by have := iff.mpr (wt_cle h); omega)]
    exact wt_HH_some ⟨rfl, rfl, rfl, scz⟩
set_option maxRecDepth 100000 in
set_option maxHeartbeats 8000000 in
theorem wr_print (n : Nat) (hn : 4294967297 < n) {x1 x2 : Int32} {s z : wt_St} (v : wt_IV z) (sc : wu_SC s z) : wt_HH (wp_ap_print n x1 x2 s) (wp_md_print n x1 x2 z) (fun q y => ((q.1 = 2 ∧ wt_gf y.2 108 0 = 1) ∨ (q.1 = 1 ∧ wt_gf y.2 108 0 = 2) ∨ (q.1 = 0 ∧ wt_gf y.2 108 0 = 0 ∧ q.2.1 = y.1)) ∧ wu_SC q.2.2 y.2) := by
  unfold wp_ap_print wp_md_print
  obtain ⟨z0, ε0⟩ : ∃ o : wt_St, o = wt_sf z 108 0 (0 : Int32) := ⟨_, rfl⟩
  rw [← ε0]
  have g0 := wt_fr_sf ε0
  have v0 : wt_IV z0 := wt_IV_fr v (wt_RI_fno v.1 ε0 (Or.inr (by decide +kernel))) g0 (by omega) (by omega) (fun i _ h => h)
  have t0 : wt_gf z0 108 0 = 0 := wt_v_sf ε0
  have sc0 : ∀ z' : wt_St, wt_fr (fun i k => i = 108 ∧ k = 0) (fun _ => False) z z' → wu_SC s z' := fun z' g => wu_SC_fr sc (wt_fr.rf (F := fun _ _ => False) (A := fun _ => False)) g (fun _ _ h => h) (fun k hk => by (try dsimp only); omega) (fun _ _ _ h => h) (fun _ _ h => h)
  refine wt_HH_l (wh_stands n hn) (fun q1 h1 => ?_)
  obtain ⟨a1, b1⟩ := h1
  rw [a1]
  refine wt_HH_r (wh_isPage n) (fun y1 h1' => ?_)
  obtain ⟨a2, b2⟩ := h1'
  rw [a2]
  rw [g0.2 275 (fun h => h)] at b2
  unfold wp_ap_print_B16 wp_md_print_B19
  rcases b1 with ⟨c1, c2, c3⟩ | ⟨c1, c2⟩
  · have et := wt_tnI c2.1
    have pg : wt_ga s 43 (Int32.toNatClampNeg x1) = wt_ga z 275 (Int32.toNatClampNeg x1) := (sc.2.2.2 _ (by omega)).1
    rcases b2 with ⟨d1, d2, d3⟩ | ⟨d1, d2⟩
    · rw [if_neg (by rw [c1]; decide), if_neg (by rw [d1]; decide)]
      refine wt_HH_l (wh_miss0 n) (fun q hq => ?_)
      subst hq
      dsimp only
      rw [if_pos rfl]
      refine wt_HH_r (wh_bad0 n t0) (fun y hy => ?_)
      subst hy
      dsimp only
      rw [if_pos rfl]
      refine wt_HH_l (wh_copies n) (fun q4 h4 => ?_)
      refine wt_HH_r (wh_isCopies n) (fun y5 h5 => ?_)
      obtain ⟨a5, b5⟩ := h5
      rw [a5]
      unfold wp_md_print_B39
      rcases h4 with ⟨h4, f1, f2⟩ | ⟨h4, f1⟩
      · rcases b5 with ⟨i1, -, -⟩ | ⟨i1, i2⟩
        · subst h4
          dsimp only
          rw [if_pos rfl, if_neg (by rw [i1]; decide)]
          refine wt_HH_r (wh_bad0 n t0) (fun y hy => ?_)
          subst hy
          dsimp only
          rw [if_pos rfl]
          exact (wr_press n hn v g0 v0 sc c2 d3 f1 f2).imp (fun q y h => ⟨Or.inr (Or.inr ⟨h.1, h.2.1.trans t0, h.2.2.1⟩), h.2.2.2⟩)
        · omega
      · rcases b5 with ⟨i1, i2, i3⟩ | ⟨i1, -⟩
        · omega
        · subst h4
          dsimp only
          rw [if_neg (by decide), if_pos i1]
          refine wt_HH_r (wh_bad1 n t0 (by decide)) (fun y hy => ?_)
          subst hy
          dsimp only
          rw [if_neg (by decide)]
          exact wt_HH_some ⟨Or.inr (Or.inl ⟨rfl, wt_v_sf rfl⟩), sc0 _ (wt_fr.tr g0 (wt_fr_sf rfl) (fun i k h => h) (fun i h => h))⟩
    · exact absurd ⟨c2, by rw [← pg]; exact c3⟩ d2
  · rcases b2 with ⟨d1, d2, d3⟩ | ⟨d1, -⟩
    · exfalso
      have pg : wt_ga s 43 (Int32.toNatClampNeg x1) = wt_ga z 275 (Int32.toNatClampNeg x1) := (sc.2.2.2 _ (by have := wt_tnI d2.1; omega)).1
      exact c2 ⟨d2, by rw [pg]; exact d3⟩
    · rw [if_pos c1, if_pos d1]
      refine wt_HH_l (wh_miss1 n) (fun q hq => ?_)
      subst hq
      dsimp only
      rw [if_neg (by decide)]
      refine wt_HH_r (wh_bad1 n t0 (by decide)) (fun y hy => ?_)
      subst hy
      dsimp only
      rw [if_neg (by decide)]
      exact wt_HH_some ⟨Or.inl ⟨rfl, wt_v_sf rfl⟩, sc0 _ (wt_fr.tr g0 (wt_fr_sf rfl) (fun i k h => h) (fun i h => h))⟩
