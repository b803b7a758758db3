theorem wt_fst_eq {N : Nat} {P : Nat → Prop} {x : Int32} (h : wt_fst N P x) : -1 ≤ x.toInt ∧ x.toInt < (N : Int) ∨ x = -1 := by
  rcases h with ⟨w, a1, a2, -⟩ | ⟨a1, -⟩
  · exact Or.inl (by omega)
  · exact Or.inr a1
set_option maxRecDepth 100000 in
set_option maxHeartbeats 8000000 in
/-- a word of a tongue is read alike on both sides -/
theorem wr_fillWord (n : Nat) (hn : 4294967297 < n) {β : Nat → Int32} {e p F k G : Nat} {x : Int32} {s z : wt_St} (hx : x.toInt = (k : Int)) (hk : k ≤ 5) (hg : 1 ≤ k → G < 20) (tv : wt_tv β e p s) (rv : wt_rv β e p z) (h0 : wt_gf z 108 5 = 0) (gr : wt_gr F k G s z) : wt_HH (wp_tg_fillWord n 27 x s) (wp_md_reads n x z) (fun q y => (q.1 = 0 ∧ wt_ft q.2 y) ∨ (q.1 = 1 ∧ wt_ok (wt_gr F (k + 1) G) β e q.2 y ∧ k < 5 ∧ G < 20)) := by
  have k0 : (0 : Int32).toInt = 0 := by decide
  have k1 : (1 : Int32).toInt = 1 := by decide
  have k3 : (3 : Int32).toInt = 3 := by decide
  have k5 : (5 : Int32).toInt = 5 := by decide
  have k9 : (9 : Int32).toInt = 9 := by decide
  have k20 : (20 : Int32).toInt = 20 := by decide
  have k60 : (60 : Int32).toInt = 60 := by decide
  have k97 : (97 : Int32).toInt = 97 := by decide
  have l28 : wt_ln (27 + 1) = 540 := by decide
  have l29 : wt_ln (27 + 2) = 60 := by decide
  unfold wp_tg_fillWord wp_md_reads
  refine wt_HH_l (wh_takeWord n hn tv) (fun q1 h1 => ?_)
  obtain ⟨j, j2, s1, s2, tv1, st1, hc⟩ := h1
  refine wt_HH_r (wh_lettersHere n rv) (fun y1 g1 => ?_)
  obtain ⟨i, i2, u1, u2, rv1, ey1, f1⟩ := g1
  have ei : i = j := wt_run_u u1 s1
  rw [ei] at u2 rv1 ey1
  have ei2 : i2 = j2 := wt_run_u u2 s2
  rw [ei2] at ey1
  have h01 : wt_gf y1.2 108 5 = 0 := (f1.1 108 5 (by (try dsimp only); omega)).trans h0
  have tb := tv1.2.2.2
  have t3 := tv1.2.2.1
  have r3 := rv1.2.2.1
  have s21 := s2.1
  have WR : ∀ (f : Nat) (a : Int32) (q z1 : wt_St), a.toInt = (f : Int) → 0 < f → wt_flt q f j → wt_gf z1 108 5 = 0 → wt_HH (some ((0 : Int32), q)) ((wp_md_wrong n a (wt_gf y1.2 108 4) z1).bind fun q4 => wp_md_reads_B92 n x y1.1 q4) (fun q y => (q.1 = 0 ∧ wt_ft q.2 y) ∨ (q.1 = 1 ∧ wt_ok (wt_gr F (k + 1) G) β e q.2 y ∧ k < 5 ∧ G < 20)) := by
    intro f a q z1 ha hf hq hz
    refine wt_HH_r (wh_wrong n hz ha r3) (fun z2 h2 => ?_)
    unfold wp_md_reads_B92
    rw [if_neg (wt_frt_nz h2.1 hf)]
    exact wt_HH_some (Or.inl ⟨rfl, f, j, hf, hq, h2.1⟩)
  rcases hc with ⟨e2, q0, fl, -⟩ | ⟨lt, q0, fr, sp⟩
  · rw [if_pos q0, if_pos (wt_eqI (a := y1.1) (b := (0 : Int32)) (by omega))]
    exact WR 1 _ _ _ (by decide) (by omega) fl h01
  · rw [if_neg (by rw [q0]; decide), if_neg (fun h => by have := wt_ceq h; omega)]
    unfold wp_tp_wordLength
    refine wt_HH_l (wt_H_some (Q := fun q => q = ((wt_gf q1.2 1 4) - (wt_gf q1.2 1 5), q1.2)) rfl) (fun q3 h3 => ?_)
    subst h3
    dsimp only
    have el := wt_subE (x := wt_gf q1.2 1 4) (y := wt_gf q1.2 1 5) (by omega) (by omega)
    have exy : (wt_gf q1.2 1 4) - (wt_gf q1.2 1 5) = y1.1 := wt_eqI (by omega)
    rw [exy]
    have gr1 : wt_gr F k G q1.2 y1.2 := wt_gr_fr gr fr f1 (fun i h1 h2 => by (try dsimp only); omega) (fun k => by (try dsimp only); omega) (by (try dsimp only); omega) (fun i _ h => h) (by (try dsimp only); omega) (by (try dsimp only); omega) (by (try dsimp only); omega)
    have E2 : wt_HH (wp_tg_fillWord_B33 n 27 q1.2) (wp_md_reads_B50 n x y1.1 (wt_gf y1.2 108 4) y1.2) (fun q y => (q.1 = 0 ∧ wt_ft q.2 y) ∨ (q.1 = 1 ∧ wt_ok (wt_gr F (k + 1) G) β e q.2 y ∧ k < 5 ∧ G < 20)) := by
      unfold wp_tg_fillWord_B33 wp_md_reads_B50
      refine wt_HH_l (wh_fail n (x := (2 : Int32)) (f := 2) (by decide) st1) (fun q5 h5 => ?_)
      rw [h5.1]
      exact WR 2 _ _ _ (by decide) (by omega) h5.2.1 h01
    have E3 : wt_HH (wp_tg_fillWord_B62 n 27 q1.2) (wp_md_reads_B86 n x y1.1 (wt_gf y1.2 108 4) y1.2) (fun q y => (q.1 = 0 ∧ wt_ft q.2 y) ∨ (q.1 = 1 ∧ wt_ok (wt_gr F (k + 1) G) β e q.2 y ∧ k < 5 ∧ G < 20)) := by
      unfold wp_tg_fillWord_B62 wp_md_reads_B86
      refine wt_HH_l (wh_fail n (x := (3 : Int32)) (f := 3) (by decide) st1) (fun q5 h5 => ?_)
      rw [h5.1]
      exact WR 3 _ _ _ (by decide) (by omega) h5.2.1 h01
    by_cases h9 : (9 : Int32) < y1.1
    · rw [if_pos h9, if_pos h9]
      exact E2
    · rw [if_neg h9, if_neg h9]
      have l9 := wt_ncl h9
      obtain ⟨⟨a1, a2, a3⟩, ⟨b1, b2, b3⟩, c, d, ew, pl⟩ := gr1
      have em : y1.1.toInt = ((j2 - j : Nat) : Int) := by omega
      refine wt_HH_l (wh_find n hn (N := F + k) (m := j2 - j) l28 l29 wt_ln3 a1 a3 em (by omega)) (fun q6 h6 => ?_)
      obtain ⟨e6, w6⟩ := h6
      rw [e6]
      refine wt_HH_r (wh_wordOf_131 n (N := F + k) (m := j2 - j) rv1 em (by omega) (by omega) a2 a3) (fun y19 h19 => ?_)
      obtain ⟨e19, w19⟩ := h19
      rw [e19]
      have SP : ∀ i, i < j2 - j → wt_ga q1.2 3 i = β (j + i) - (97 : Int32) := fun i hi => by
        have hb := wt_sm_b s2 (i := j + i) (by omega) (by omega)
        have es := wt_subE (x := β (j + i)) (y := (97 : Int32)) (by omega) (by omega)
        have := sp i (by omega) (by omega)
        exact wt_eqI (by omega)
      have same : q6.1 = y19.1 := wt_fst_u w6 w19 (fun w hw => by
        obtain ⟨c1, -, -, -, -, c6⟩ := c w hw
        constructor
        · rintro ⟨x1, x2⟩
          have x1' : wt_ga q1.2 (27 + 2) w = y1.1 := x1
          refine ⟨c1.symm.trans x1', fun i hi => ?_⟩
          rw [← (c6 i (by rw [x1', em]; omega)).1, x2 i hi]
          exact SP i hi
        · rintro ⟨x1, x2⟩
          have x1' : wt_ga q1.2 (27 + 2) w = y1.1 := c1.trans x1
          refine ⟨x1', fun i hi => ?_⟩
          rw [SP i hi, ← x2 i hi]
          exact (c6 i (by rw [x1', em]; omega)).1)
      rw [same]
      by_cases hm1 : y19.1 = (-1 : Int32)
      · rw [if_pos hm1, if_pos hm1]
        by_cases bad : k = 5 ∨ F + k = 60 ∨ (k = 0 ∧ G = 20)
        · have X : wt_HH (wp_tg_fillWord_B62 n 27 q1.2) (if x = (5 : Int32) then wp_md_reads_B86 n x y1.1 (wt_gf y1.2 108 4) y1.2 else if (wt_gf y1.2 108 27) = (60 : Int32) then wp_md_reads_B86 n x y1.1 (wt_gf y1.2 108 4) y1.2 else if x = 0 then if (wt_gf y1.2 108 29) = (20 : Int32) then wp_md_reads_B86 n x y1.1 (wt_gf y1.2 108 4) y1.2 else wp_md_reads_B92 n x y1.1 y1.2 else wp_md_reads_B92 n x y1.1 y1.2) (fun q y => (q.1 = 0 ∧ wt_ft q.2 y) ∨ (q.1 = 1 ∧ wt_ok (wt_gr F (k + 1) G) β e q.2 y ∧ k < 5 ∧ G < 20)) := by
            refine wt_HH_ir (fun _ => E3) (fun d1 => wt_HH_ir (fun _ => E3) (fun d2 => ?_))
            have d1' := wt_nceq d1
            have d2' := wt_nceq d2
            refine wt_HH_ir (fun d3 => wt_HH_ir (fun _ => E3) (fun d4 => ?_)) (fun d3 => ?_)
            · have d3' := wt_ceq d3
              have d4' := wt_nceq d4
              omega
            · have d3' := wt_nceq d3
              omega
          refine wt_HH_il (fun _ => X) (fun c1 => wt_HH_il (fun _ => X) (fun c2 => wt_HH_il (fun c3 => ?_) (fun _ => X)))
          have c1' := wt_ncle c1
          have c2' := wt_ncle c2
          have c3' := wt_clt c3
          omega
        · have hG : G < 20 := by omega
          rw [if_neg (fun h => by have := wt_cle h; omega), if_neg (fun h => by have := wt_cle h; omega), if_pos (Int32.lt_iff_toInt_lt.mpr (by omega)), if_neg (fun h => by have := wt_ceq h; omega), if_neg (fun h => by have := wt_ceq h; omega)]
          have M : wt_HH (wt_it (wp_tg_fillWord_B71 n 27 y1.1) n ((0 : Int32), q1.2)) (wp_md_reads_B92 n x y1.1 y1.2) (fun q y => (q.1 = 0 ∧ wt_ft q.2 y) ∨ (q.1 = 1 ∧ wt_ok (wt_gr F (k + 1) G) β e q.2 y ∧ k < 5 ∧ G < 20)) := by
            unfold wp_md_reads_B92
            rw [if_pos h01]
            have et2 : Int32.toNatClampNeg (wt_gf y1.2 108 27) = F + k := wt_tnN a2
            refine wt_HH_gr (fun _ => ?_)
            rw [et2]
            obtain ⟨z1, ε1⟩ : ∃ o : wt_St, o = wt_sa y1.2 125 (F + k) y1.1 := ⟨_, rfl⟩
            rw [← ε1]
            have p1 := wt_fr_sa ε1
            -- the letters, on the one side
            refine wt_HH_itl (fun t : Int32 × wt_St => 0 ≤ t.1.toInt ∧ t.1.toInt ≤ ((j2 - j : Nat) : Int) ∧ wt_fr (fun _ _ => False) (fun i => i = 28) q1.2 t.2 ∧ (∀ i : Nat, (i : Int) < t.1.toInt → wt_ga t.2 28 (9 * (F + k) + i) = wt_ga q1.2 3 i) ∧ ∀ i, i < 9 * (F + k) → wt_ga t.2 28 i = wt_ga q1.2 28 i) (fun K t I hK => ?_) n _ ⟨by show 0 ≤ ((0 : Int32)).toInt; omega, by show ((0 : Int32)).toInt ≤ _; omega, wt_fr.rf, fun i hi => absurd (show (i : Int) < ((0 : Int32)).toInt from hi) (by omega), fun i _ => rfl⟩
            obtain ⟨I0, I1, ft, I2, I3⟩ := I
            have et := wt_tnI I0
            unfold wp_tg_fillWord_B71
            refine wt_HH_il (fun cc => ?_) (fun cc => ?_)
            · have cc' := wt_cle cc
              have tvt : wt_tv β e j2 t.2 := wt_tv_fr tv1 ft (by decide) (fun h => h) (fun h => h)
              -- the letters, on the other
              refine wt_HH_itr (fun u : Int32 × wt_St => 0 ≤ u.1.toInt ∧ u.1.toInt ≤ ((j2 - j : Nat) : Int) ∧ wt_fr (fun _ _ => False) (fun i => i = 132 + (F + k)) z1 u.2 ∧ ∀ i : Nat, (i : Int) < u.1.toInt → wt_ga u.2 (132 + (F + k)) i = β (j + i) - (97 : Int32)) (fun K2 u J hK2 => ?_) n _ ⟨by show 0 ≤ ((0 : Int32)).toInt; omega, by show ((0 : Int32)).toInt ≤ _; omega, wt_fr.rf, fun i hi => absurd (show (i : Int) < ((0 : Int32)).toInt from hi) (by omega)⟩
              obtain ⟨J0, J1, fu, J2⟩ := J
              have eu := wt_tnI J0
              have rvu : wt_rv β e j u.2 := wt_rv_fr (wt_rv_fr rv1 p1 (by decide) (fun h => h) (fun h => h)) fu (by (try dsimp only); omega) (fun h => h) (fun h => h)
              have g27 : wt_gf u.2 108 27 = wt_gf y1.2 108 27 := (fu.1 108 27 (fun h => h)).trans (p1.1 108 27 (fun h => h))
              unfold wp_md_reads_B113
              refine wt_HH_ir (fun dd => ?_) (fun dd => ?_)
              · have dd' := wt_cle dd
                have ea := wt_addE (x := wt_gf u.2 108 4) (y := y1.1) (by rw [rvu.2.2.1]; omega) (by rw [rvu.2.2.1]; omega)
                obtain ⟨z2, ε2⟩ : ∃ o : wt_St, o = wt_sf u.2 108 4 ((wt_gf u.2 108 4) + y1.1) := ⟨_, rfl⟩
                rw [← ε2]
                have p2 := wt_fr_sf ε2
                have g272 : wt_gf z2 108 27 = wt_gf y1.2 108 27 := (p2.1 108 27 (by (try dsimp only); omega)).trans g27
                refine wt_HH_gr (fun _ => ?_)
                rw [g272, et2]
                obtain ⟨z3, ε3⟩ : ∃ o : wt_St, o = wt_sa z2 127 (F + k) (0 : Int32) := ⟨_, rfl⟩
                rw [← ε3]
                have p3 := wt_fr_sa ε3
                have rv2 : wt_rv β e j2 z2 := wt_rv_adv rvu ε2 (by rw [ea, rvu.2.2.1]; omega) (by omega)
                have rv3 := wt_rv_fr rv2 p3 (by decide) (fun h => h) (fun h => h)
                have FR : wt_fr (fun i k => i = 108 ∧ k = 4) (fun i => i = 125 ∨ i = 127 ∨ i = 132 + (F + k)) y1.2 z3 := (((wt_fr.rf.sa ε1 (by first | decide | ((try dsimp only); omega))).tr (wt_frw fu (fun i k h => h.elim) (fun i h => by (try dsimp only at h); omega)) (fun i k h => h) (fun i h => h)).sf ε2 ⟨rfl, rfl⟩).sa ε3 (by first | decide | ((try dsimp only); omega))
                have h03 : wt_gf z3 108 5 = 0 := (FR.1 108 5 (by (try dsimp only); omega)).trans h01
                have o125 : ∀ w, w ≠ F + k → wt_ga z3 125 w = wt_ga y1.2 125 w := fun w hw => by rw [p3.2 125 (by decide), p2.2 125 (fun h => h), fu.2 125 (by (try dsimp only); omega)]; exact wt_w_sa ε1 w hw
                have v125 : wt_ga z3 125 (F + k) = y1.1 := by rw [p3.2 125 (by decide), p2.2 125 (fun h => h), fu.2 125 (by (try dsimp only); omega)]; exact wt_v_sa ε1
                have o127 : ∀ w, w ≠ F + k → wt_ga z3 127 w = wt_ga y1.2 127 w := fun w hw => by
                  rw [wt_w_sa ε3 w hw, p2.2 127 (fun h => h), fu.2 127 (by (try dsimp only); omega), p1.2 127 (by decide)]
                have v127 : wt_ga z3 127 (F + k) = 0 := wt_v_sa ε3
                have gw : wt_gw F k G (j2 - j) t.2 z3 := by
                  refine ⟨⟨⟨?_, ?_, a3⟩, ⟨?_, ?_, b3⟩, ?_, wt_gs_fr d ft (fun i h1 h2 => by (try dsimp only); omega), fun w h1 h2 => ?_, ?_⟩, by omega, by rw [v125]; exact em, by omega, by omega, fun i hi => ?_⟩
                  · rw [ft.1 27 6 (fun h => h)]; exact a1
                  · rw [FR.1 108 27 (by decide)]; exact a2
                  · rw [ft.1 27 7 (fun h => h)]; exact b1
                  · rw [FR.1 108 29 (by decide)]; exact b2
                  · refine wt_tt_eq c (fun i hi w _ => ft.2 i (by (try dsimp only); omega) w) (fun i hi => I3 i hi) (fun i hi w hw => ?_) (fun w hw i => FR.2 (132 + w) (by (try dsimp only); omega) i)
                    rcases hi with hi | hi | hi
                    · rw [hi]; exact o125 w (by omega)
                    · rw [hi]; exact o127 w (by omega)
                    · rw [hi]; exact FR.2 129 (by (try dsimp only); omega) w
                  · rw [ft.2 31 (by decide)]; exact ew w h1 h2
                  · rw [ft.1 1 7 (fun h => h), FR.1 108 6 (by decide)]; exact pl
                  · have hb := wt_sm_b s2 (i := j + i) (by omega) (by omega)
                    have es := wt_subE (x := β (j + i)) (y := (97 : Int32)) (by omega) (by omega)
                    have i2' := I2 i (by omega)
                    have j2' := J2 i (by omega)
                    have e13 : wt_ga z3 (132 + (F + k)) i = β (j + i) - (97 : Int32) := by rw [p3.2 (132 + (F + k)) (by (try dsimp only); omega), p2.2 _ (fun h => h)]; exact j2'
                    rw [i2', e13, SP i hi]
                    exact ⟨rfl, by omega, by omega⟩
                -- the mark
                refine wt_HH_l (wh_takeSign n hn (47 : Int32) tvt) (fun q13 h13 => ?_)
                obtain ⟨j3, r3', st3, fr3, hc3⟩ := h13
                refine wt_HH_r (wh_blanks n rv3) (fun y9 h9' => ?_)
                obtain ⟨j3', r3'', rv9, fr9⟩ := h9'
                have ej3 : j3' = j3 := wt_run_u r3'' r3'
                rw [ej3] at rv9
                have h09 : wt_gf y9 108 5 = 0 := (fr9.1 108 5 (by (try dsimp only); omega)).trans h03
                have gw9 : wt_gw F k G (j2 - j) q13.2 y9 := wt_gw_lxc _ _ _ _ gw (wt_frw fr3 (fun i k h => h) (fun i h => h.elim)) fr9
                refine wt_HH_r (wh_byteAt n rv9 (j := j3) rv9.2.2.1) (fun y10 h10 => ?_)
                rcases hc3 with ⟨zz1, lt3, eq3, tv3⟩ | ⟨zz1, ne3, tv3⟩
                · rw [if_neg (by rw [zz1]; decide)]
                  rcases h10 with ⟨ge, -⟩ | ⟨-, hq⟩
                  · omega
                  · subst hq
                    dsimp only
                    rw [if_pos eq3]
                    have e4 := wt_i1 (c := wt_gf y9 108 4) (by rw [rv9.2.2.1]; omega)
                    obtain ⟨z11, ε11⟩ : ∃ o : wt_St, o = wt_sf y9 108 4 ((wt_gf y9 108 4) + (1 : Int32)) := ⟨_, rfl⟩
                    rw [← ε11]
                    have p11 := wt_fr_sf ε11
                    have rv11 : wt_rv β e (j3 + 1) z11 := wt_rv_adv rv9 ε11 (by rw [e4, rv9.2.2.1]; omega) (by omega)
                    have gw11 : wt_gw F k G (j2 - j) q13.2 z11 := wt_gw_lxc _ _ _ _ gw9 wt_fr.rf p11
                    have e2711 : Int32.toNatClampNeg (wt_gf z11 108 27) = F + k := wt_tnN gw11.1.1.2.1
                    refine wt_HH_b (wr_number n hn (R := wt_gw F k G (j2 - j)) wt_gw_lxc ⟨j3 + 1, tv3, rv11, (p11.1 108 5 (by (try dsimp only); omega)).trans h09, gw11⟩ (by omega) (by omega)) (fun a b hab => ?_)
                    refine wt_HH_gr (fun _ => ?_)
                    rw [e2711]
                    obtain ⟨z12, ε12⟩ : ∃ o : wt_St, o = wt_sa b.2 127 (F + k) b.1 := ⟨_, rfl⟩
                    rw [← ε12]
                    have p12 := wt_fr_sa ε12
                    rcases hab with ⟨m1, f, pp, hf, mfl, mfr⟩ | ⟨m1, m2, m3, p4, tv4, rv4, h04, gw4⟩
                    · unfold wp_tg_fillWord_B128
                      rw [if_pos m1]
                      have frz := wt_frt_fr mfr p12 (fun h => h) (fun h => h)
                      have B27 : ∀ zb : wt_St, wt_frt zb f pp → wt_HH (some ((0 : Int32), a.2)) (wp_md_reads_B227 n zb) (fun q y => (q.1 = 0 ∧ wt_ft q.2 y) ∨ (q.1 = 1 ∧ wt_ok (wt_gr F (k + 1) G) β e q.2 y ∧ k < 5 ∧ G < 20)) := by
                        intro zb hzb
                        unfold wp_md_reads_B227
                        refine wt_HH_gr (fun _ => ?_)
                        exact wt_HH_some (Or.inl ⟨rfl, f, pp, hf, mfl, wt_frt_fr (wt_frt_fr hzb (wt_fr_sa rfl) (fun h => h) (fun h => h)) (wt_fr_sf rfl) (by (try dsimp only); omega) (by (try dsimp only); omega)⟩)
                      unfold wp_md_reads_B213
                      exact wt_HH_ir (fun _ => B27 _ (wt_frt_fr frz (wt_fr_sf rfl) (by (try dsimp only); omega) (by (try dsimp only); omega))) (fun _ => B27 _ frz)
                    · rw [m3] at ε12
                      obtain ⟨g4r, g4a, g4b, g4c, g4d, g4e⟩ := gw4
                      have gr12 : wt_gr F k G a.2 z12 := by
                        obtain ⟨A1, A2, A3, A4, A5, A6⟩ := g4r
                        refine ⟨by rw [p12.1 108 27 (fun h => h)]; exact A1, by rw [p12.1 108 29 (fun h => h)]; exact A2, wt_tt_eq A3 (fun i _ w _ => rfl) (fun i _ => rfl) (fun i hi w hw => ?_) (fun w hw i => p12.2 (132 + w) (by (try dsimp only); omega) i), A4, A5, by rw [p12.1 108 6 (fun h => h)]; exact A6⟩
                        rcases hi with hi | hi | hi
                        · rw [hi]; exact p12.2 125 (by decide) w
                        · rw [hi]; exact wt_w_sa ε12 w (by omega)
                        · rw [hi]; exact p12.2 129 (by decide) w
                      exact wr_wordEnd n hn (m := j2 - j) (p := p4) hx (by omega) hG em (by omega) (by omega) tv4 (wt_rv_fr rv4 p12 (by decide) (fun h => h) (fun h => h)) ((p12.1 108 5 (fun h => h)).trans h04) ⟨gr12, g4a, by rw [p12.2 125 (by decide)]; exact g4b, g4c, g4d, fun i hi => by rw [p12.2 (132 + (F + k)) (by (try dsimp only); omega)]; exact g4e i hi⟩ (wt_v_sa ε12)
                · rw [if_pos zz1]
                  have NS : y10.2 = y9 ∧ ¬ y10.1 = (47 : Int32) := by
                    rcases h10 with ⟨ge, hq⟩ | ⟨hlt, hq⟩
                    · rw [hq]; exact ⟨rfl, fun h => absurd (show (-1 : Int32) = _ from h) (by decide)⟩
                    · rw [hq]; exact ⟨rfl, fun h => ne3 ⟨hlt, h⟩⟩
                  rw [if_neg NS.2, NS.1]
                  refine wr_wordEnd n hn (m := j2 - j) (p := j3) hx (by omega) hG em (by omega) (by omega) tv3 rv9 h09 gw9 ?_
                  rw [fr9.2 127 (fun h => h)]
                  exact v127
              · have dd' := wt_ncle dd
                refine wt_HH_gr (fun _ => ?_)
                have ek := wt_addE (x := wt_gf u.2 108 4) (y := u.1) (by rw [rvu.2.2.1]; omega) (by rw [rvu.2.2.1]; omega)
                have eu1 := wt_i1 (c := u.1) (by omega)
                refine wt_HH_r (wh_byteAt n rvu (j := j + Int32.toNatClampNeg u.1) (by rw [ek, rvu.2.2.1]; omega)) (fun y17 h17 => ?_)
                rcases h17 with ⟨ge, -⟩ | ⟨-, hq⟩
                · omega
                · subst hq
                  dsimp only
                  refine wt_HH_gr (fun _ => ?_)
                  rw [g27, et2]
                  obtain ⟨u2', ε⟩ : ∃ o : wt_St, o = wt_sa u.2 (132 + (F + k)) (Int32.toNatClampNeg u.1) (β (j + Int32.toNatClampNeg u.1) - (97 : Int32)) := ⟨_, rfl⟩
                  rw [← ε]
                  refine hK2 _ ⟨by show 0 ≤ (u.1 + (1 : Int32)).toInt; omega, by show (u.1 + (1 : Int32)).toInt ≤ _; omega, fu.sa ε rfl, fun i hi => ?_⟩
                  have hi' : (i : Int) < (u.1 + (1 : Int32)).toInt := hi
                  show wt_ga u2' (132 + (F + k)) i = _
                  by_cases hc' : i = Int32.toNatClampNeg u.1
                  · rw [hc', wt_v_sa ε]
                  · rw [wt_w_sa ε i hc']; exact J2 i (by omega)
            · have cc' := wt_ncle cc
              have et1 := wt_i1 (c := t.1) (by omega)
              have c276 : wt_gf t.2 27 6 = wt_gf q1.2 27 6 := ft.1 27 6 (fun h => h)
              refine wt_HH_l (wh_look n hn (k := Int32.toNatClampNeg t.1) (by omega) (by rw [wt_ln3]; omega)) (fun q20 h20 => ?_)
              subst h20
              dsimp only
              rw [c276]
              have em9 := wt_mulR (x := wt_gf q1.2 27 6) k9 (by omega) (by omega)
              have ea9 := wt_addE (x := (wt_gf q1.2 27 6) * (9 : Int32)) (y := t.1) (by omega) (by omega)
              refine wt_HH_l (wh_put n (k := 9 * (F + k) + Int32.toNatClampNeg t.1) (by omega) (by rw [l28]; omega)) (fun q21 ε => ?_)
              have ε' : q21 = wt_sa t.2 28 (9 * (F + k) + Int32.toNatClampNeg t.1) (wt_ga t.2 3 (Int32.toNatClampNeg t.1)) := ε
              refine hK _ ⟨by show 0 ≤ (t.1 + (1 : Int32)).toInt; omega, by show (t.1 + (1 : Int32)).toInt ≤ _; omega, ft.sa ε' rfl, fun i hi => ?_, fun i hi => ?_⟩
              · have hi' : (i : Int) < (t.1 + (1 : Int32)).toInt := hi
                show wt_ga q21 28 (9 * (F + k) + i) = wt_ga q1.2 3 i
                by_cases hc' : i = Int32.toNatClampNeg t.1
                · rw [hc', wt_v_sa ε']
                  exact ft.2 3 (by decide) _
                · rw [wt_w_sa ε' _ (by omega)]; exact I2 i (by omega)
              · show wt_ga q21 28 i = wt_ga q1.2 28 i
                rw [wt_w_sa ε' _ (by omega)]
                exact I3 i hi
          refine wt_HH_ir (fun d3 => ?_) (fun _ => M)
          have d3' := wt_ceq d3
          rw [if_neg (fun h => by have := wt_ceq h; omega)]
          exact M
      · rw [if_neg hm1, if_neg hm1]
        exact E2
