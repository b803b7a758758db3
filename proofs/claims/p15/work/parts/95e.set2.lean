set_option maxRecDepth 100000 in
set_option maxHeartbeats 8000000 in
theorem wr_stand (n : Nat) (hn : 4294967297 < n) {x1 x2 : Int32} {s z z0 : wt_St} (v : wt_IV z) (g0 : wt_fr (fun i k => i = 108 ∧ k = 0) (fun _ => False) z z0) (r0 : wt_RI z0) (tx : wu_TX s z) (lc : wu_LC s z) (sc : wu_SC s z) (hx0 : 0 ≤ x1.toInt) (hx1 : x1.toInt < (wt_gf z 108 39).toInt) : wt_HH ((wp_pg_stand n x1 x2 s).bind fun q5 => some ((0 : Nat), q5.1, q5.2)) ((wp_md_needsText n x1 z0).bind fun q9 => (wp_md_lacking n x2 q9).bind fun q10 => if q10.1 = (-1 : Int32) then wt_it (wp_md_set_B66 n x1 x2) n ((0 : Int32), q10.2) else some ((-1 : Int32), q10.2)) (fun q y => q.1 = 0 ∧ wt_gf y.2 108 0 = wt_gf z0 108 0 ∧ q.2.1 = y.1 ∧ wu_SC q.2.2 y.2) := by
  have k0 : (0 : Int32).toInt = 0 := by decide
  have k4 : (4 : Int32).toInt = 4 := by decide
  have hz : 0 ≤ (wt_gf z 108 39).toInt ∧ (wt_gf z 108 39).toInt ≤ 8 := wt_Rf7 v.1
  have et := wt_tnI hx0
  obtain ⟨tm, -, -, -, -, -, tn6⟩ := tx.2 (Int32.toNatClampNeg x1) (by omega)
  have sk := wu_SK_of lc sc
  unfold wp_pg_stand
  refine wt_HH_lb (wh_spell n hn (a := 78) (t := Int32.toNatClampNeg x1) (by decide) (by decide) (by omega) (by omega)) (fun s1 hs1 => ?_)
  obtain ⟨f1, nd1⟩ := hs1
  refine wt_HH_r (wq_md_needsText n hn x1 z0 r0 hx0 (by omega)).h (fun z1 hz1 => ?_)
  obtain ⟨fn, rz1, -, nd2⟩ := hz1
  have F1 : wt_fr (fun i k => i = 108 ∧ k = 0) (fun i => i = 287) z z1 := wt_fr.tr (wt_frw g0 (fun i k h => h) (fun i h => h.elim)) fn (fun i k h => h.elim) (fun i h => h)
  have sk1 : wu_SK 40 s1 z1 := wu_SK_fr sk f1 F1 ⟨by decide, by decide, by decide⟩ ⟨by decide, by decide, by decide⟩
  have nd : ∀ l, l < 26 → wt_ga s1 78 l = wt_ga z1 287 l := fun l hl => by
    refine wt_eqI ?_
    rw [nd1 l hl, tn6 l hl, nd2 l hl]
    exact (wt_nt_fr v.1 (by omega) (fun i _ j => g0.2 i (fun h => h) j)).symm
  have same : ∀ l, l < 26 → (wu_rd s1 40 x2.toInt l < (wt_ga s1 78 l).toInt ↔ wt_go z1 x2.toInt l < (wt_ga z1 287 l).toInt) := fun l hl => by
    rw [wu_rd_go sk1 hl, nd l hl]
  have sc1 : ∀ y' : wt_St, wt_fr (fun i k => i = 108 ∧ k = 0) (fun i => i = 287) z y' → wu_SC s1 y' := fun y' fy => wu_SC_fr sc f1 fy (fun _ _ h => h) (fun k hk => by (try dsimp only); omega) (fun i p q => by (try dsimp only); omega) (fun i h => by (try dsimp only); omega)
  have z10 : wt_gf z1 108 0 = wt_gf z0 108 0 := fn.1 108 0 (fun h => h)
  refine wt_HH_bb (wt_HH_of (wh_lacking n hn (by decide) (by decide) (fun l hl => (sk1 l hl).2.1)) (wh_lackingM n hn rz1) (Q := fun a b => a.2 = s1 ∧ b.2 = z1 ∧ a.1 = b.1 ∧ wt_fst 26 (fun l => wt_go z1 x2.toInt l < (wt_ga z1 287 l).toInt) b.1) (fun a b ha hb => ⟨ha.1, hb.1, wt_fst_u ha.2 hb.2 same, hb.2⟩)) (fun a b hab => ?_)
  obtain ⟨a1, b1, e, fb⟩ := hab
  rw [a1, b1, e]
  by_cases hm : b.1 = (-1 : Int32)
  · rw [if_pos hm, if_pos hm]
    refine wt_HH_lb (wh_firstFree n hn) (fun q4 h4 => ?_)
    obtain ⟨e4, ff⟩ := h4
    rw [e4]
    have pg : ∀ g, g < 4 → wt_ga s1 43 g = wt_ga z1 275 g := fun g hg => by
      rw [f1.2 43 (by decide), F1.2 275 (by decide)]
      exact (sc.2.2.2 g hg).1
    refine wt_HH_itr (fun u : Int32 × wt_St => u.2 = z1 ∧ 0 ≤ u.1.toInt ∧ u.1.toInt ≤ 4 ∧ ∀ g : Nat, (g : Int) < u.1.toInt → (wt_ga z1 275 g).toInt ≠ -1) (fun K u I hK => ?_) n _ ⟨rfl, by show 0 ≤ ((0 : Int32)).toInt; omega, by show ((0 : Int32)).toInt ≤ 4; omega, fun k hk => absurd (show (k : Int) < ((0 : Int32)).toInt from hk) (by omega)⟩
    obtain ⟨u0, u1, u2, u3⟩ := I
    have eu := wt_tnI u1
    unfold wp_md_set_B66
    rw [u0]
    refine wt_HH_ir (fun c => ?_) (fun c => ?_)
    · have c' := wt_cle c
      unfold wp_md_set_B87
      rw [if_pos (wt_eqI (a := u.1) (b := (4 : Int32)) (by omega))]
      rcases ff with ⟨w, w1, -, w3, -⟩ | ⟨w1, -⟩
      · exact absurd (by rw [← pg w w1]; exact w3) (u3 w (by omega))
      · rw [if_pos w1]
        exact wt_HH_some ⟨rfl, z10, rfl, sc1 _ F1⟩
    · have c' := wt_ncle c
      refine wt_HH_gr (fun _ => ?_)
      refine wt_HH_ir (fun d => ?_) (fun d => ?_)
      · have d' := (wt_ceq d).trans wt_lm1
        -- the same page, on both sides
        have eg : q4.1 = u.1 := by
          rcases ff with ⟨w, w1, w2, w3, w4⟩ | ⟨-, w2⟩
          · refine wt_eqI ?_
            rcases Nat.lt_trichotomy w (Int32.toNatClampNeg u.1) with h | h | h
            · exact absurd (by rw [← pg w w1]; exact w3) (u3 w (by omega))
            · omega
            · exact absurd (show (wt_ga s1 43 (Int32.toNatClampNeg u.1)).toInt = -1 from by rw [pg _ (by omega)]; exact d') (w4 _ h)
          · exact absurd (show (wt_ga s1 43 (Int32.toNatClampNeg u.1)).toInt = -1 from by rw [pg _ (by omega)]; exact d') (w2 (Int32.toNatClampNeg u.1) (by omega))
        rw [eg, if_neg (fun h => by have := wt_ceq h; rw [wt_lm1] at this; omega)]
        unfold wp_md_set_B87
        rw [if_neg (fun h => by have := wt_ceq h; omega)]
        unfold wp_md_takes
        refine wt_HH_rb (wh_lackingM n hn rz1) (fun b2 hb2 => ?_)
        obtain ⟨b21, fb2⟩ := hb2
        have e2 : b2.1 = b.1 := wt_fst_u fb2 fb (fun w hw => Iff.rfl)
        rw [b21, if_pos (e2.trans hm)]
        obtain ⟨z2, ε2⟩ : ∃ o : wt_St, o = wt_sf z1 108 54 (0 : Int32) := ⟨_, rfl⟩
        rw [← ε2]
        have h2 := wt_fr_sf ε2
        have F2 : wt_fr (fun i k => i = 108 ∧ (k = 0 ∨ k = 54)) (fun i => i = 287) z z2 := wt_fr.sf (wt_frw F1 (fun i k h => by (try dsimp only at h ⊢); omega) (fun i h => h)) ε2 (by first | decide | ((try dsimp only); omega))
        have free : (wt_ga z 275 (Int32.toNatClampNeg u.1)).toInt = -1 := by rw [← F1.2 275 (by decide)]; exact d'
        refine wt_HH_b (wr_standLoop n hn (g := Int32.toNatClampNeg u.1) (x1 := x1) (s0 := s1) (z0 := z2) (by omega) (by omega) (wu_SK_fr sk1 (wt_fr.rf (F := fun _ _ => False) (A := fun _ => False)) h2 ⟨fun h => h, fun h => h, fun h => h⟩ ⟨fun h => h, fun h => h, fun h => h⟩) ?_ (fun l hl => by rw [h2.2 287 (fun h => h)]; exact nd l hl) (by rw [wt_v_sf ε2]; exact k0) (fun l i hl hi ho => ?_)) (fun a' b' hab' => ?_)
        · rw [f1.1 39 9 (fun h => h), F2.1 108 26 (by decide)]; exact (wu_SC_SH sc).1
        · rw [F2.2 111 (by decide)] at hi
          rw [F2.2 124 (by decide)] at ho
          obtain ⟨-, -, p3⟩ := (sc.2.2.1 l hl).1 i hi
          rcases p3 with p3 | ⟨g', q1, q2, q3⟩
          · omega
          · have eg' : g' = Int32.toNatClampNeg u.1 := by omega
            rw [eg'] at q3
            exact q3 free
        · obtain ⟨y1, s', KK, ea, st⟩ := hab'
          rw [ea]
          refine wt_HH_gr (fun _ => ?_)
          refine wt_HH_gr (fun _ => ?_)
          refine wt_HH_of (P := fun q => q = ((0 : Nat), u.1, wt_sa s' 43 (Int32.toNatClampNeg u.1) x1)) (wt_H_some rfl) (wh_setTail n (g := Int32.toNatClampNeg u.1) (K := KK) (x := x1) (by omega) (by omega) st.2.1.1 st.2.1.2) (fun q y hq hy => ?_)
          obtain ⟨t1, t2, t3, t4, t5, t6, t7⟩ := hy
          rw [hq]
          refine ⟨rfl, ?_, t1.symm, wu_SC_set (by omega) hx0 v sc free f1 F2 st rfl t2 t3 t4 t5 t6 t7⟩
          rw [t2.1 108 0 (fun h => h), st.1.2.1 108 0 (by decide), h2.1 108 0 (by decide)]
          exact z10
      · have d' := wt_nceq d
        rw [wt_lm1] at d'
        have ei := wt_i1 (c := u.1) (by omega)
        refine hK _ ⟨rfl, by show 0 ≤ (u.1 + (1 : Int32)).toInt; omega, by show (u.1 + (1 : Int32)).toInt ≤ 4; omega, fun g hg => ?_⟩
        have hg' : (g : Int) < (u.1 + (1 : Int32)).toInt := hg
        by_cases hc : g = Int32.toNatClampNeg u.1
        · rw [hc]; exact d'
        · exact u3 g (by omega)
  · rw [if_neg hm, if_neg hm]
    exact wt_HH_some ⟨rfl, z10, rfl, sc1 _ F1⟩
set_option maxRecDepth 100000 in
set_option maxHeartbeats 8000000 in
theorem wr_set (n : Nat) (hn : 4294967297 < n) {x1 x2 : Int32} {s z : wt_St} (v : wt_IV z) (tx : wu_TX s z) (lc : wu_LC s z) (sc : wu_SC s z) : wt_HH (wp_ap_set n x1 x2 s) (wp_md_set n x1 x2 z) (fun q y => ((q.1 = 2 ∧ wt_gf y.2 108 0 = 1) ∨ (q.1 = 1 ∧ wt_gf y.2 108 0 = 2) ∨ (q.1 = 0 ∧ wt_gf y.2 108 0 = 0 ∧ q.2.1 = y.1)) ∧ wu_SC q.2.2 y.2) := by
  have k0 : (0 : Int32).toInt = 0 := by decide
  have hz : 0 ≤ (wt_gf z 108 39).toInt ∧ (wt_gf z 108 39).toInt ≤ 8 := wt_Rf7 v.1
  have eT := wt_ceq tx.1
  unfold wp_ap_set wp_md_set
  obtain ⟨z0, ε0⟩ : ∃ o : wt_St, o = wt_sf z 108 0 (0 : Int32) := ⟨_, rfl⟩
  rw [← ε0]
  have g0 := wt_fr_sf ε0
  have r0 := wt_RI_fno v.1 ε0 (Or.inr (by decide +kernel))
  have t0 : wt_gf z0 108 0 = 0 := wt_v_sf ε0
  have e39 : wt_gf z0 108 39 = wt_gf z 108 39 := g0.1 108 39 (by decide)
  have sc0 : ∀ z' : wt_St, wt_fr (fun i k => i = 108 ∧ k = 0) (fun _ => False) z z' → wu_SC s z' := fun z' g => wu_SC_fr sc (wt_fr.rf (F := fun _ _ => False) (A := fun _ => False)) g (fun _ _ h => h) (fun k hk => by (try dsimp only); omega) (fun _ _ _ h => h) (fun _ _ h => h)
  refine wt_HH_l (wh_txhas n) (fun q1 h1 => ?_)
  obtain ⟨a1, b1⟩ := h1
  rw [a1]
  refine wt_HH_r (wh_isText n (by rw [e39]; exact hz.1) (by rw [e39]; exact hz.2)) (fun y1 h1' => ?_)
  obtain ⟨a2, b2⟩ := h1'
  rw [a2]
  rw [e39] at b2
  unfold wp_ap_set_B16 wp_md_set_B19
  rcases b1 with ⟨c1, c2, c3⟩ | ⟨c1, c2⟩
  · rcases b2 with ⟨d1, -, -⟩ | ⟨d1, d2⟩
    · rw [if_neg (by rw [c1]; decide), if_neg (by rw [d1]; decide)]
      refine wt_HH_l (wh_miss0 n) (fun q hq => ?_)
      subst hq
      dsimp only
      rw [if_pos rfl]
      refine wt_HH_r (wh_bad0 n t0) (fun y hy => ?_)
      subst hy
      dsimp only
      rw [if_pos rfl]
      refine wt_HH_l (wh_copies n) (fun q4 h4 => ?_)
      refine wt_HH_r (wh_isCopies n) (fun y5 h5 => ?_)
      obtain ⟨a5, b5⟩ := h5
      rw [a5]
      unfold wp_md_set_B39
      rcases h4 with ⟨h4, f1, f2⟩ | ⟨h4, f1⟩
      · rcases b5 with ⟨i1, -, -⟩ | ⟨i1, i2⟩
        · subst h4
          dsimp only
          rw [if_pos rfl, if_neg (by rw [i1]; decide)]
          refine wt_HH_r (wh_bad0 n t0) (fun y hy => ?_)
          subst hy
          dsimp only
          rw [if_pos rfl]
          exact (wr_stand n hn v g0 r0 tx lc sc c2 (by omega)).imp (fun q y h => ⟨Or.inr (Or.inr ⟨h.1, h.2.1.trans t0, h.2.2.1⟩), h.2.2.2⟩)
        · omega
      · rcases b5 with ⟨i1, i2, i3⟩ | ⟨i1, -⟩
        · omega
        · subst h4
          dsimp only
          rw [if_neg (by decide), if_pos i1]
          refine wt_HH_r (wh_bad1 n t0 (by decide)) (fun y hy => ?_)
          subst hy
          dsimp only
          rw [if_neg (by decide)]
          exact wt_HH_some ⟨Or.inr (Or.inl ⟨rfl, wt_v_sf rfl⟩), sc0 _ (wt_fr.tr g0 (wt_fr_sf rfl) (fun i k h => h) (fun i h => h))⟩
    · omega
  · rcases b2 with ⟨d1, d2, d3⟩ | ⟨d1, -⟩
    · omega
    · rw [if_pos c1, if_pos d1]
      refine wt_HH_l (wh_miss1 n) (fun q hq => ?_)
      subst hq
      dsimp only
      rw [if_neg (by decide)]
      refine wt_HH_r (wh_bad1 n t0 (by decide)) (fun y hy => ?_)
      subst hy
      dsimp only
      rw [if_neg (by decide)]
      exact wt_HH_some ⟨Or.inl ⟨rfl, wt_v_sf rfl⟩, sc0 _ (wt_fr.tr g0 (wt_fr_sf rfl) (fun i k h => h) (fun i h => h))⟩
