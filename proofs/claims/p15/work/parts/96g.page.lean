/-! read, page on both sides -/
theorem wt_H_and {α : Type} {p : Option α} {P Q : α → Prop} (h : wt_H p P) (h' : wt_H p Q) : wt_H p (fun a => P a ∧ Q a) := fun a e => ⟨h a e, h' a e⟩
/-- a page that stands: its text, the words -/
theorem wu_pgf {s z : wt_St} {g : Nat} (v : wt_IV z) (rl : wu_RL s z) (hg : g < 4) (st : (wt_ga z 275 g).toInt ≠ -1) : ∃ t m N : Nat, ((wt_ga z 275 g).toInt = (t : Int) ∧ t < 8) ∧ ((wt_ga z 253 t).toInt = (m : Int) ∧ 1 ≤ m ∧ m ≤ 12 ∧ wt_ga s 36 t = wt_ga z 253 t) ∧ wu_X1 s z t ∧ (∀ l : Int, 0 ≤ l → l < 26 → wt_nt z t l ≤ wt_pc z g l) ∧ ((wt_gf s 20 6).toInt = (N : Int) ∧ (wt_gf z 108 28).toInt = (N : Int) ∧ N ≤ 60) ∧ wt_tt 20 126 128 130 193 N s z := by
  obtain ⟨-, -, to, -, tx, -, -⟩ := rl
  obtain ⟨N, G, ⟨w1, w2, w3⟩, -, tt, -⟩ := to
  have h75 : -1 ≤ (wt_ga z 275 g).toInt ∧ (wt_ga z 275 g).toInt ≤ 7 := wt_Ra12 v.1 275 (show 275 ≤ 275 by omega) (show 275 < 276 by omega) g
  have hz : 0 ≤ (wt_gf z 108 39).toInt ∧ (wt_gf z 108 39).toInt ≤ 8 := wt_Rf7 v.1
  obtain ⟨p1, p2⟩ := v.2.2.1 g hg st
  have et := wt_tnI (x := wt_ga z 275 g) (by omega)
  have X := tx.2 (Int32.toNatClampNeg (wt_ga z 275 g)) (by omega)
  obtain ⟨m, m1, m2, m3, m4, m5, m6⟩ := X
  exact ⟨Int32.toNatClampNeg (wt_ga z 275 g), m, N, ⟨et.symm, by omega⟩, ⟨by rw [m2]; exact m1, m3, m4, m2.symm⟩, ⟨m, m1, m2, m3, m4, m5, m6⟩, p2, ⟨w1, w2, w3⟩, tt⟩
theorem wr_readStep (n : Nat) (hn : 4294967297 < n) {x1 x2 : Int32} {g t m i : Nat} {s z : wt_St} (v : wt_IV z) (rl : wu_RL s z) (hx : x1.toInt = (g : Int)) (hg : g < 4) (st : (wt_ga z 275 g).toInt = (t : Int)) (hm : (wt_ga z 253 t).toInt = (m : Int)) (h2 : x2.toInt = (i : Int)) (him : i < m) : wt_HH (wp_pg_readAs n x1 x2 s) (wp_md_readOf n x1 x2 z) (fun q y => q.1 = y.1 ∧ wt_fr (fun _ _ => False) (fun i => i = 79 ∨ i = 80) s q.2 ∧ wt_fr (fun _ _ => False) (fun i => i = 289 ∨ i = 290) z y.2 ∧ wt_RI y.2) := by
  have st' : (wt_ga z 275 g).toInt ≠ -1 := by omega
  obtain ⟨t', m', N, ⟨t1, t2⟩, -, X, nt, ⟨n1, n2, n3⟩, tt⟩ := wu_pgf v rl hg st'
  have e : t' = t := by omega
  rw [e] at t2 X nt
  have eg := wt_tnN hx
  have RM := (wq_md_readOf n hn x1 x2 z v.1 (by omega) (by omega) (by rw [eg]; exact st') (by omega) (by rw [eg, wt_tnN st]; omega) v.2.2.1).h
  refine wt_HH_of (wh_readAs n hn v n1 n2 n3 tt X rl.2.2.2.1 rl.2.2.2.2.2.1 hx hg st t2 hm h2 him nt) (wt_H_and (wh_readOf n v.1 hx hg st t2 hm h2 him nt n2 n3) RM) (fun q y hq hy => ⟨wu_rs_rr tt hq.2 hy.1.2, hq.1, hy.1.1, hy.2.2⟩)
theorem wr_read (n : Nat) (hn : 4294967297 < n) {x1 x2 : Int32} {s z : wt_St} (v : wt_IV z) (rl : wu_RL s z) : wt_HH (wp_ap_read n x1 x2 s) (wp_md_read n x1 x2 z) (fun q y => (q.1 = 2 ∧ wt_gf y.2 108 0 = 1) ∨ (q.1 = 0 ∧ wt_gf y.2 108 0 = 0 ∧ q.2.1 = y.1)) := by
  have k0 : (0 : Int32).toInt = 0 := by decide
  have k1 : (1 : Int32).toInt = 1 := by decide
  unfold wp_ap_read wp_md_read
  obtain ⟨z0, ε0⟩ : ∃ o : wt_St, o = wt_sf z 108 0 (0 : Int32) := ⟨_, rfl⟩
  rw [← ε0]
  have g0 := wt_fr_sf ε0
  have t0 : wt_gf z0 108 0 = 0 := wt_v_sf ε0
  have v0 : wt_IV z0 := wt_IV_fr v (wt_RI_fno v.1 ε0 (Or.inr (by decide +kernel))) g0 (by omega) (by omega) (fun i _ h => h)
  have rl0 := wu_RL_z0 rl v.1 g0
  have eP : ∀ g, g < 4 → wt_ga s 43 g = wt_ga z0 275 g := fun g hg => (rl0.2.2.2.2.2.1.2.2.2 g hg).1
  refine wr_gP n hn (wp_ap_read_B16 n x1 x2) (wp_md_read_B19 n x1 x2) eP (wr_mb1 n t0 (by decide) (Or.inl ⟨rfl, wt_v_sf rfl⟩)) (fun hx0 hx1 hst => wr_mb0 n t0 ?_)
  dsimp only
  have hx := (wt_tnI hx0).symm
  obtain ⟨g, hg⟩ : ∃ g : Nat, g = Int32.toNatClampNeg x1 := ⟨_, rfl⟩
  rw [← hg] at hx hst
  have hg4 : g < 4 := by omega
  obtain ⟨t, m, N, ⟨t1, t2⟩, ⟨m1, m2, m3, m4⟩, X, -, ⟨-, n2, n3⟩, -⟩ := wu_pgf v0 rl0 hg4 hst
  rw [← hg, wt_tnN t1]
  refine wt_HH_l (wh_look n hn (k := g) hx (by rw [show wt_ln 43 = 4 from by decide]; exact hg4)) (fun q hq => ?_)
  subst hq
  dsimp only
  rw [eP g hg4]
  refine wt_HH_l (wh_wordAt n hn (t := t) (m := m) t1 t2 (by rw [m4]; exact m1) m3) (fun q5 h5 => ?_)
  obtain ⟨e5, h5⟩ := h5
  rw [e5]
  refine wt_HH_gr (fun _ => wt_HH_gr (fun _ => ?_))
  have es := wt_subE (x := wt_ga z0 253 t) (y := (1 : Int32)) (by omega) (by omega)
  refine wt_HH_r (wh_in n) (fun y7 h7 => ?_)
  obtain ⟨e7, h7⟩ := h7
  rw [e7]
  rcases h5 with ⟨i, i1, i2, i3⟩ | ⟨i1, i2⟩
  · rcases h7 with ⟨-, j2⟩ | ⟨j1, -⟩
    · omega
    · have im' : ¬ q5.1 = (-1 : Int32) := by
        obtain ⟨m'', x1', x2', -, -, x5, -⟩ := X
        have em : m'' = m := by
          have := wt_ceq x2'
          omega
        have h0 := (x5 i (by omega)).2.1
        intro h
        rw [← i3, h, wt_lm1] at h0
        omega
      rw [if_neg im', if_neg (show ¬ y7.1 = 0 by rw [j1]; decide)]
      refine wt_HH_b (wr_readStep n hn v0 rl0 hx hg4 t1 m1 i1 i2) (fun a b hab => wt_HH_some (Or.inr ⟨rfl, ?_, hab.1⟩))
      show wt_gf b.2 108 0 = 0
      rw [hab.2.2.1.1 108 0 (fun h => h)]
      exact t0
  · rcases h7 with ⟨j1, -⟩ | ⟨-, j2, j3⟩
    · rw [if_pos i2, if_pos (show y7.1 = 0 from j1)]
      exact wt_HH_some (Or.inr ⟨rfl, t0, rfl⟩)
    · omega
theorem wh_faintOn (n : Nat) (hn : 4294967297 < n) {x : Int32} {s : wt_St} : wt_H (wp_pg_faintOn n x s) (fun q => q.2 = s ∧ q.1.toInt = wt_sum (fun c => if (wt_ga s 41 c).toInt = x.toInt then (if wt_ga s 40 c < wt_gf s 4 7 then 1 else 0) else 0) 312) := by
  have k0 : (0 : Int32).toInt = 0 := by decide
  have k1 : (1 : Int32).toInt = 1 := by decide
  have k312 : (312 : Int32).toInt = 312 := by decide
  unfold wp_pg_faintOn
  refine wt_H_it (fun t : Int32 × Int32 × wt_St => t.2.2 = s ∧ (0 ≤ t.2.1.toInt ∧ t.2.1.toInt ≤ 312) ∧ t.1.toInt = wt_sum (fun c => if (wt_ga s 41 c).toInt = x.toInt then (if wt_ga s 40 c < wt_gf s 4 7 then 1 else 0) else 0) (Int32.toNatClampNeg t.2.1) ∧ 0 ≤ t.1.toInt ∧ t.1.toInt ≤ t.2.1.toInt) (fun K t I hK => ?_) n _ ⟨rfl, ⟨by show 0 ≤ ((0 : Int32)).toInt; omega, by show ((0 : Int32)).toInt ≤ 312; omega⟩, by show ((0 : Int32)).toInt = wt_sum _ (Int32.toNatClampNeg (0 : Int32)); rw [wt_tn0]; exact k0, by show 0 ≤ ((0 : Int32)).toInt; omega, by show ((0 : Int32)).toInt ≤ ((0 : Int32)).toInt; omega⟩
  obtain ⟨i0, ⟨i1, i2⟩, i3, i4, i5⟩ := I
  have et := wt_tnI i1
  unfold wp_pg_faintOn_B4
  rw [i0]
  refine wt_H_if (fun c => ?_) (fun c => ?_)
  · have c' := wt_cle c
    refine wt_H_some ⟨rfl, ?_⟩
    show t.1.toInt = _
    rw [i3, show Int32.toNatClampNeg t.2.1 = 312 by omega]
  · have c' := wt_ncle c
    have ei := wt_i1 (c := t.2.1) (by omega)
    have en : Int32.toNatClampNeg (t.2.1 + (1 : Int32)) = Int32.toNatClampNeg t.2.1 + 1 := by have := wt_tnI (x := t.2.1 + (1 : Int32)) (by omega); omega
    have B : ∀ y : Int32, y.toInt = (if (wt_ga s 41 (Int32.toNatClampNeg t.2.1)).toInt = x.toInt then (if wt_ga s 40 (Int32.toNatClampNeg t.2.1) < wt_gf s 4 7 then 1 else 0) else 0) → 0 ≤ y.toInt → y.toInt ≤ 1 → wt_H (wp_pg_faintOn_B40 n x t.2.1 K t.1 y s) (fun q => q.2 = s ∧ q.1.toInt = wt_sum (fun c => if (wt_ga s 41 c).toInt = x.toInt then (if wt_ga s 40 c < wt_gf s 4 7 then 1 else 0) else 0) 312) := fun y hy y0 y1 => by
      have ea := wt_addE (x := t.1) (y := y) (by omega) (by omega)
      unfold wp_pg_faintOn_B40
      refine hK _ ⟨rfl, ⟨by show 0 ≤ (t.2.1 + (1 : Int32)).toInt; omega, by show (t.2.1 + (1 : Int32)).toInt ≤ 312; omega⟩, ?_, by show 0 ≤ (t.1 + y).toInt; omega, by show (t.1 + y).toInt ≤ (t.2.1 + (1 : Int32)).toInt; omega⟩
      show (t.1 + y).toInt = wt_sum _ (Int32.toNatClampNeg (t.2.1 + (1 : Int32)))
      rw [en, ea, i3, hy]
      rfl
    refine wt_H_bh (wh_look n hn (k := Int32.toNatClampNeg t.2.1) (by omega) (by rw [show wt_ln 41 = 312 from by decide]; omega)) (fun q hq => ?_)
    subst hq
    dsimp only
    refine wt_H_if (fun d => ?_) (fun d => ?_)
    · refine wt_H_bh (wh_isFaint n hn (j := Int32.toNatClampNeg t.2.1) (by omega) (by omega)) (fun q4 h4 => ?_)
      obtain ⟨e4, h4⟩ := h4
      rw [e4]
      unfold wp_pg_faintOn_B39
      rcases h4 with ⟨a, b⟩ | ⟨a, b⟩
      · rw [if_neg (show ¬ q4.1 = 0 by rw [a]; decide)]
        exact B 1 (by rw [if_pos (wt_ceq d), if_pos b]; exact k1) (by omega) (by omega)
      · rw [if_pos (show q4.1 = 0 from a)]
        exact B 0 (by rw [if_pos (wt_ceq d), if_neg b]; exact k0) (by omega) (by omega)
    · unfold wp_pg_faintOn_B39
      exact B 0 (by rw [if_neg (wt_nceq d)]; exact k0) (by omega) (by omega)
/-- the reference's two loops, when one alone is meant -/
theorem wh_page2 (n : Nat) {x1 : Int32} {g K : Nat} {z : wt_St} (hx : x1.toInt = (g : Int)) (hK : (wt_ga z 276 g).toInt = (K : Int)) (hK8 : K ≤ 108) : wt_H (wt_it (wp_md_page_B91 n x1 (2 : Int32)) n ((0 : Int32), (0 : Int32), z)) (fun y => y.2 = z ∧ y.1.toInt = wt_sum (fun k => if wt_ga z 121 (Int32.toNatClampNeg (wt_ga z (278 + g) k)) < wt_gf z 108 25 then 1 else 0) K) := by
  have k0 : (0 : Int32).toInt = 0 := by decide
  have k1 : (1 : Int32).toInt = 1 := by decide
  have eg := wt_tnN hx
  refine wt_H_it (fun t : Int32 × Int32 × wt_St => t.2.2 = z ∧ (0 ≤ t.2.1.toInt ∧ t.2.1.toInt ≤ (K : Int)) ∧ t.1.toInt = wt_sum (fun k => if wt_ga z 121 (Int32.toNatClampNeg (wt_ga z (278 + g) k)) < wt_gf z 108 25 then 1 else 0) (Int32.toNatClampNeg t.2.1) ∧ 0 ≤ t.1.toInt ∧ t.1.toInt ≤ t.2.1.toInt) (fun Kk t I hK' => ?_) n _ ⟨rfl, ⟨by show 0 ≤ ((0 : Int32)).toInt; omega, by show ((0 : Int32)).toInt ≤ _; omega⟩, by show ((0 : Int32)).toInt = wt_sum _ (Int32.toNatClampNeg (0 : Int32)); rw [wt_tn0]; exact k0, by show 0 ≤ ((0 : Int32)).toInt; omega, by show ((0 : Int32)).toInt ≤ ((0 : Int32)).toInt; omega⟩
  obtain ⟨i0, ⟨i1, i2⟩, i3, i4, i5⟩ := I
  have et := wt_tnI i1
  unfold wp_md_page_B91
  rw [i0, eg]
  refine wt_H_gd (fun _ => ?_)
  refine wt_H_if (fun c => ?_) (fun c => ?_)
  · have c' := wt_cle c
    have E : t.1.toInt = wt_sum (fun k => if wt_ga z 121 (Int32.toNatClampNeg (wt_ga z (278 + g) k)) < wt_gf z 108 25 then 1 else 0) K := by rw [i3, show Int32.toNatClampNeg t.2.1 = K by omega]
    unfold wp_md_page_B142
    refine wt_H_it (fun u : Int32 × Int32 × wt_St => u.2.2 = z ∧ u.1 = t.1) (fun K2 u J _ => ?_) n _ ⟨rfl, rfl⟩
    obtain ⟨j1, j2⟩ := J
    unfold wp_md_page_B145
    rw [j1, j2]
    refine wt_H_gd (fun _ => wt_H_gd (fun _ => wt_H_if (fun _ => wt_H_some ⟨rfl, E⟩) (fun _ => ?_)))
    rw [if_neg (show ¬ (2 : Int32) = (4 : Int32) by decide)]
    exact wt_H_some ⟨rfl, E⟩
  · have c' := wt_ncle c
    have ei := wt_i1 (c := t.2.1) (by omega)
    have en : Int32.toNatClampNeg (t.2.1 + (1 : Int32)) = Int32.toNatClampNeg t.2.1 + 1 := by have := wt_tnI (x := t.2.1 + (1 : Int32)) (by omega); omega
    rw [if_pos (show (2 : Int32) = (2 : Int32) from rfl)]
    refine wt_H_gd (fun _ => wt_H_gd (fun _ => ?_))
    unfold wp_md_page_B134
    have B : ∀ y : Int32, y.toInt = (if wt_ga z 121 (Int32.toNatClampNeg (wt_ga z (278 + g) (Int32.toNatClampNeg t.2.1))) < wt_gf z 108 25 then 1 else 0) → 0 ≤ y.toInt → y.toInt ≤ 1 → wt_H (Kk ((t.1 + y), (t.2.1 + (1 : Int32)), z)) (fun y => y.2 = z ∧ y.1.toInt = wt_sum (fun k => if wt_ga z 121 (Int32.toNatClampNeg (wt_ga z (278 + g) k)) < wt_gf z 108 25 then 1 else 0) K) := fun y hy y0 y1 => by
      have ea := wt_addE (x := t.1) (y := y) (by omega) (by omega)
      refine hK' _ ⟨rfl, ⟨by show 0 ≤ (t.2.1 + (1 : Int32)).toInt; omega, by show (t.2.1 + (1 : Int32)).toInt ≤ _; omega⟩, ?_, by show 0 ≤ (t.1 + y).toInt; omega, by show (t.1 + y).toInt ≤ (t.2.1 + (1 : Int32)).toInt; omega⟩
      show (t.1 + y).toInt = wt_sum _ (Int32.toNatClampNeg (t.2.1 + (1 : Int32)))
      rw [en, ea, i3, hy]
      rfl
    refine wt_H_gd (fun _ => ?_)
    refine wt_H_if (fun d => B 0 ?_ (by omega) (by omega)) (fun d => B 1 ?_ (by omega) (by omega))
    · rw [if_neg (show ¬ wt_ga z 121 (Int32.toNatClampNeg (wt_ga z (278 + g) (Int32.toNatClampNeg t.2.1))) < wt_gf z 108 25 from fun h => by have := wt_clt h; have := wt_cle d; omega)]
      exact k0
    · rw [if_pos (show wt_ga z 121 (Int32.toNatClampNeg (wt_ga z (278 + g) (Int32.toNatClampNeg t.2.1))) < wt_gf z 108 25 from Int32.lt_iff_toInt_lt.mpr (wt_ncle d))]
      exact k1
/-- misread words, in step -/
theorem wr_misread (n : Nat) (hn : 4294967297 < n) {x1 : Int32} {g : Nat} {s z : wt_St} (v : wt_IV z) (rl : wu_RL s z) (hx : x1.toInt = (g : Int)) (hg : g < 4) (st : (wt_ga z 275 g).toInt ≠ -1) : wt_HH (wp_pg_misreadOn n x1 s) (wt_it (wp_md_page_B145 n x1 (4 : Int32)) n ((0 : Int32), (0 : Int32), z)) (fun q y => q.1 = y.1 ∧ wt_fr (fun _ _ => False) (fun i => i = 289 ∨ i = 290) z y.2) := by
  have k0 : (0 : Int32).toInt = 0 := by decide
  have k12 : (12 : Int32).toInt = 12 := by decide
  have eg := wt_tnN hx
  obtain ⟨t, m, N, ⟨t1, t2⟩, ⟨m1, m2, m3, m4⟩, X, -, -, -⟩ := wu_pgf v rl hg st
  have et := wt_tnN t1
  have eP : wt_ga s 43 g = wt_ga z 275 g := (rl.2.2.2.2.2.1.2.2.2 g hg).1
  unfold wp_pg_misreadOn
  refine wt_HH_l (wh_look n hn (k := g) hx (by rw [show wt_ln 43 = 4 from by decide]; exact hg)) (fun q hq => ?_)
  subst hq
  dsimp only
  rw [eP]
  refine wt_HH_it (fun a b : Int32 × Int32 × wt_St => a.1 = b.1 ∧ a.2.1 = b.2.1 ∧ wt_fr (fun _ _ => False) (fun i => i = 79 ∨ i = 80) s a.2.2 ∧ wt_fr (fun _ _ => False) (fun i => i = 289 ∨ i = 290) z b.2.2 ∧ wt_RI b.2.2 ∧ 0 ≤ b.2.1.toInt) (fun K K' a b I hK => ?_) n n _ _ ⟨rfl, rfl, wt_fr.rf, wt_fr.rf, v.1, by show 0 ≤ ((0 : Int32)).toInt; omega⟩
  obtain ⟨i1, i2, f, f', ri, i5⟩ := I
  have etb := wt_tnI i5
  unfold wp_pg_misreadOn_B17 wp_md_page_B145 wp_tx_lengthOf
  rw [i1, i2, eg, f'.2 275 (by decide), et, f'.2 253 (by decide)]
  simp only [Option.bind_assoc]
  refine wt_HH_l (wh_look n hn (k := t) t1 (by rw [show wt_ln 36 = 8 from by decide]; exact t2)) (fun q hq => ?_)
  subst hq
  show wt_HH (if wt_ga a.2.2 36 t ≤ b.2.1 then _ else _) _ _
  rw [f.2 36 (by decide), m4]
  refine wt_HH_gr (fun _ => wt_HH_gr (fun _ => ?_))
  refine wt_HH_il (fun c => ?_) (fun c => ?_)
  · rw [if_pos c]
    exact wt_HH_some ⟨rfl, f'⟩
  · rw [if_neg c]
    first | rw [if_pos (show (4 : Int32) = (4 : Int32) from rfl)] | rw [if_pos trivial]
    dsimp only
    have c' := wt_ncle c
    have ei := wt_i1 (c := b.2.1) (by omega)
    have rl' : wu_RL a.2.2 b.2.2 := wu_RL_fr rl v.1 f f' (fun i k _ h => h) (fun i hi => by unfold wu_RA at hi; (try dsimp only); omega) (fun _ _ h => h) (fun i hi => by unfold wu_RB at hi; (try dsimp only); omega)
    have v' : wt_IV b.2.2 := wt_IV_fr v ri f' (fun h => h) (fun h => h) (fun i hi => by unfold wt_PA at hi; (try dsimp only); omega)
    refine wt_HH_b (wr_readStep n hn v' rl' hx hg (t := t) (m := m) (i := Int32.toNatClampNeg b.2.1) (by rw [f'.2 275 (by decide)]; exact t1) (by rw [f'.2 253 (by decide)]; exact m1) etb.symm (by omega)) (fun q y h => ?_)
    obtain ⟨e, fq, fy, ry⟩ := h
    have F := wt_fr.tr f fq (fun i k h => h) (fun i h => h)
    have F' := wt_fr.tr f' fy (fun i k h => h) (fun i h => h)
    rw [F'.2 275 (by decide), et, F'.2 (255 + t) (by (try dsimp only); omega), e]
    refine wt_HH_l (wh_wordAt n hn (t := t) (m := m) t1 t2 (by rw [F.2 36 (by decide), m4]; exact m1) m3) (fun q5 h5 => ?_)
    obtain ⟨e5, h5⟩ := h5
    rw [e5]
    have w : q5.1 = wt_ga z (255 + t) (Int32.toNatClampNeg b.2.1) := by
      rcases h5 with ⟨j, j1, j2, j3⟩ | ⟨j1, -⟩
      · obtain ⟨mm, xx1, -, -, -, x5, -⟩ := X
        have e' : j = Int32.toNatClampNeg b.2.1 := by omega
        rw [m4] at xx1
        rw [j3, F.2 35 (by decide), e']
        exact (x5 _ (by omega)).1
      · omega
    rw [w]
    refine wt_HH_gr (fun _ => wt_HH_gr (fun _ => wt_HH_gr (fun _ => ?_)))
    unfold wp_pg_misreadOn_B56 wp_md_page_B196
    refine wt_HH_il (fun d => ?_) (fun d => ?_)
    · rw [if_pos d]
      exact hK _ _ ⟨rfl, rfl, F, F', ry, by show 0 ≤ (b.2.1 + (1 : Int32)).toInt; omega⟩
    · rw [if_neg d]
      exact hK _ _ ⟨rfl, rfl, F, F', ry, by show 0 ≤ (b.2.1 + (1 : Int32)).toInt; omega⟩
theorem wt_HH_lm {α α' β : Type} {x : Option α} {f : α → α'} {y : Option β} {P : α → β → Prop} {Q : α' → β → Prop} (h : wt_HH x y P) (k : ∀ a b, P a b → Q (f a) b) : wt_HH (x.bind fun a => some (f a)) y Q := by
  intro u b hu hb
  cases hx : x with
  | none => rw [hx] at hu; cases hu
  | some a =>
    rw [hx] at hu
    cases hu
    exact k a b (h a b hx hb)
set_option maxHeartbeats 4000000 in
theorem wr_page (n : Nat) (hn : 4294967297 < n) {x1 x2 : Int32} {s z : wt_St} (v : wt_IV z) (rl : wu_RL s z) : wt_HH (wp_ap_page n x1 x2 s) (wp_md_page n x1 x2 z) (fun q y => (q.1 = 2 ∧ wt_gf y.2 108 0 = 1) ∨ (q.1 = 1 ∧ wt_gf y.2 108 0 = 2) ∨ (q.1 = 0 ∧ wt_gf y.2 108 0 = 0 ∧ q.2.1 = y.1)) := by
  have k0 : (0 : Int32).toInt = 0 := by decide
  have k4 : (4 : Int32).toInt = 4 := by decide
  unfold wp_ap_page wp_md_page
  obtain ⟨z0, ε0⟩ : ∃ o : wt_St, o = wt_sf z 108 0 (0 : Int32) := ⟨_, rfl⟩
  rw [← ε0]
  have g0 := wt_fr_sf ε0
  have t0 : wt_gf z0 108 0 = 0 := wt_v_sf ε0
  have v0 : wt_IV z0 := wt_IV_fr v (wt_RI_fno v.1 ε0 (Or.inr (by decide +kernel))) g0 (by omega) (by omega) (fun i _ h => h)
  have rl0 := wu_RL_z0 rl v.1 g0
  have sc0 : wu_SC s z0 := rl0.2.2.2.2.2.1
  have eP : ∀ g, g < 4 → wt_ga s 43 g = wt_ga z0 275 g := fun g hg => (sc0.2.2.2 g hg).1
  refine wr_gP n hn (wp_ap_page_B16 n x1 x2) (wp_md_page_B19 n x1 x2) eP (wr_mb1 n t0 (by decide) (Or.inl ⟨rfl, wt_v_sf rfl⟩)) (fun hx0 hx1 hst => wr_mb0 n t0 ?_)
  dsimp only
  have hx := (wt_tnI hx0).symm
  obtain ⟨g, hg⟩ : ∃ g : Nat, g = Int32.toNatClampNeg x1 := ⟨_, rfl⟩
  rw [← hg] at hx hst
  have hg4 : g < 4 := by omega
  refine wt_HH_r (wh_in n) (fun y2 h2 => ?_)
  obtain ⟨e2, b2⟩ := h2
  rw [e2]
  rcases b2 with ⟨d1, d2⟩ | ⟨d1, d2, d3⟩
  · have no : ∀ k : Int32, 0 ≤ k.toInt → k.toInt ≤ 4 → ¬ x2 = k := fun k h0 h4 h => by rw [h] at d2; omega
    rw [if_pos (show y2.1 = 0 from d1), if_neg (no 0 (by decide) (by decide)), if_neg (no 1 (by decide) (by decide)), if_neg (no 2 (by decide) (by decide)), if_neg (no 3 (by decide) (by decide)), if_neg (no 4 (by decide) (by decide))]
    exact wt_HH_rr (P' := fun y => wt_gf y.2 108 0 = 2) (wh_b1 n t0 (by decide) (wt_v_sf rfl)) (fun y hy => wt_H_some (Or.inr (Or.inl ⟨rfl, hy⟩)))
  · rw [if_neg (show ¬ y2.1 = 0 by rw [d1]; decide)]
    refine wr_b0 n t0 ?_
    dsimp only
    rw [← hg]
    have hK : 0 ≤ (wt_ga z0 276 g).toInt ∧ (wt_ga z0 276 g).toInt ≤ 108 := wt_Ra13 v0.1 276 (show 276 ≤ 276 by omega) (show 276 < 277 by omega) g
    have eK := wt_tnI hK.1
    have M1 := wu_pm1 v0 sc0 hg4 hst
    have M2 := wu_pm2 v0 sc0 hg4 hst
    have A : ∀ (w : Int32) (y : Int32 × wt_St), w = y.1 → wt_gf y.2 108 0 = 0 → ((0 : Nat) = 2 ∧ wt_gf y.2 108 0 = 1) ∨ ((0 : Nat) = 1 ∧ wt_gf y.2 108 0 = 2) ∨ ((0 : Nat) = 0 ∧ wt_gf y.2 108 0 = 0 ∧ w = y.1) := fun w y h1 h2 => Or.inr (Or.inr ⟨rfl, h2, h1⟩)
    refine wt_HH_il (fun c => ?_) (fun c => ?_)
    · subst c
      rw [if_neg (show ¬ (2 : Int32) ≤ 0 by decide), if_pos (show (0 : Int32) = 0 from rfl)]
      refine wt_HH_l (wh_look n hn (k := g) hx (by rw [show wt_ln 43 = 4 from by decide]; exact hg4)) (fun q hq => ?_)
      subst hq
      exact wt_HH_gr (fun _ => wt_HH_some (A _ _ (eP g hg4) t0))
    refine wt_HH_il (fun c1 => ?_) (fun c1 => ?_)
    · subst c1
      rw [if_neg (show ¬ (2 : Int32) ≤ 1 by decide), if_neg (show ¬ (1 : Int32) = 0 by decide)]
      refine wt_HH_l (wh_piecesOn n hn) (fun q hq => ?_)
      refine wt_HH_gr (fun _ => wt_HH_some (A _ _ (wt_eqI ?_) t0))
      show q.1.toInt = (wt_ga z0 276 g).toInt
      rw [hq.2, hx]
      have P := wu_pageSum v0 sc0 hg4 hst (fun _ => 1)
      rw [wt_sum_all (f := fun _ => (1 : Int)) (Int32.toNatClampNeg (wt_ga z0 276 g)) (fun _ _ => rfl)] at P
      omega
    refine wt_HH_il (fun c2 => ?_) (fun c2 => ?_)
    · subst c2
      rw [if_pos (show (2 : Int32) ≤ 2 by decide), if_neg (show ¬ (2 : Int32) = 3 by decide)]
      refine wt_HH_rr (wh_page2 n hx (K := Int32.toNatClampNeg (wt_ga z0 276 g)) eK.symm (by omega)) (fun y hy => ?_)
      refine wt_H_bh (wh_faintOn n hn) (fun q hq => wt_H_some (A _ _ (wt_eqI ?_) (by rw [hy.1]; exact t0)))
      rw [hq.2, hy.2, hx]
      have P := wu_pageSum v0 sc0 hg4 hst (fun c => if wt_ga s 40 c < wt_gf s 4 7 then 1 else 0)
      refine P.trans (wt_sum_congr _ (fun k hk => ?_))
      obtain ⟨l, i, l1, l2, l12, l3, l4, l5, l6, l7, -⟩ := M1 k (by omega)
      show (if wt_ga s 40 (wu_pp (wt_ga z0 (278 + g) k)) < wt_gf s 4 7 then (1 : Int) else 0) = if wt_ga z0 121 (Int32.toNatClampNeg (wt_ga z0 (278 + g) k)) < wt_gf z0 108 25 then 1 else 0
      rw [l7, l6, l3, rl0.2.2.2.1.2.2.2.2.2]
    refine wt_HH_il (fun c3 => ?_) (fun c3 => ?_)
    · subst c3
      rw [if_pos (show (2 : Int32) ≤ 3 by decide), if_pos (show (3 : Int32) = 3 from rfl)]
      refine wt_HH_l (wh_leastLeftOn n hn) (fun q hq => ?_)
      refine wt_HH_r (wh_leastOf n (g := g) hx hK.2) (fun y hy => wt_HH_some (A _ _ (wt_eqI ?_) (by show wt_gf y.2 108 0 = 0; rw [hy.1]; exact t0)))
      obtain ⟨-, p1, p2, p3⟩ := hq
      obtain ⟨-, q1, q2, q3⟩ := hy
      have h4 : ∀ c, 0 ≤ (wt_ga z0 121 c).toInt ∧ (wt_ga z0 121 c).toInt ≤ 400 := fun c => wt_Ra3 v0.1 121 (show 120 ≤ 121 by omega) (show 121 < 122 by omega) c
      -- the page has a piece
      obtain ⟨t, m, N, ⟨u1, u2⟩, -, X, nt, -, -⟩ := wu_pgf v0 rl0 hg4 hst
      obtain ⟨L, L1, L2⟩ := wu_nt_pos rl0.2.2.1 X
      have L3 := nt (L : Int) (by omega) (by omega)
      have L4 := wt_ct_bd (fun k => (wt_ga z0 (278 + g) k).toInt / 13) (L : Int) (Int32.toNatClampNeg (wt_ga z0 276 g))
      have L5 : wt_pc z0 g (L : Int) = wt_ct (fun k => (wt_ga z0 (278 + g) k).toInt / 13) (L : Int) (Int32.toNatClampNeg (wt_ga z0 276 g)) := rfl
      -- piece by piece
      have fw : ∀ k : Nat, (k : Int) < (wt_ga z0 276 g).toInt → q.1.toInt ≤ (wt_ga z0 121 (Int32.toNatClampNeg (wt_ga z0 (278 + g) k))).toInt := fun k hk => by
        obtain ⟨l, i, l1, l2, l12, l3, l4, l5, l6, l7, -⟩ := M1 k hk
        have a := p3 (12 * l + i) (by omega) (by show (wt_ga s 41 (12 * l + i)).toInt = x1.toInt; rw [l5, hx])
        have a' : q.1.toInt ≤ (wt_ga s 40 (12 * l + i)).toInt := a
        rw [l3, ← l6]
        exact a'
      have bw : ∀ c, c < 312 → (wt_ga s 41 c).toInt = x1.toInt → y.1.toInt ≤ (wt_ga s 40 c).toInt := fun c hc hp => by
        obtain ⟨l, i, k, l1, l2, l3, l4, l5⟩ := M2 c hc (by rw [hp, hx])
        have mm := v0.2.1 l
        have a := q3 k (by omega) trivial
        have a' : y.1.toInt ≤ (wt_ga z0 121 (Int32.toNatClampNeg (wt_ga z0 (278 + g) k))).toInt := a
        rw [l5, ← ((sc0.2.2.1 l l1).1 i l2).1] at a'
        rw [l3]
        exact a'
      have f0 := fw 0 (by omega)
      have h40 := h4 (Int32.toNatClampNeg (wt_ga z0 (278 + g) 0))
      show q.1.toInt = y.1.toInt
      rcases p1 with p1 | ⟨c, c1, c2, c3⟩
      · omega
      · have b := bw c c1 c2
        have c3' : q.1.toInt = (wt_ga s 40 c).toInt := c3
        rcases q1 with q1 | ⟨k, k1, -, k3⟩
        · omega
        · have k3' : y.1.toInt = (wt_ga z0 121 (Int32.toNatClampNeg (wt_ga z0 (278 + g) k))).toInt := k3
          have := fw k (by omega)
          omega
    refine wt_HH_il (fun c4 => ?_) (fun c4 => ?_)
    · subst c4
      rw [if_pos (show (2 : Int32) ≤ 4 by decide), if_neg (show ¬ (4 : Int32) = 3 by decide)]
      refine wt_HH_itr (fun u : Int32 × Int32 × wt_St => u = ((0 : Int32), (0 : Int32), z0)) (fun K u J _ => ?_) n _ rfl
      subst J
      have Z : wt_HH ((wp_pg_misreadOn n x1 s).bind fun q13 => some ((0 : Nat), q13.1, q13.2)) (wp_md_page_B142 n x1 (4 : Int32) (0 : Int32) z0) (fun q y => (q.1 = 2 ∧ wt_gf y.2 108 0 = 1) ∨ (q.1 = 1 ∧ wt_gf y.2 108 0 = 2) ∨ (q.1 = 0 ∧ wt_gf y.2 108 0 = 0 ∧ q.2.1 = y.1)) := by
        unfold wp_md_page_B142
        exact wt_HH_lm (wr_misread n hn v0 rl0 hx hg4 hst) (fun a b h => A _ _ h.1 (by rw [h.2.1 108 0 (fun h => h)]; exact t0))
      unfold wp_md_page_B91
      dsimp only
      refine wt_HH_gr (fun _ => wt_HH_ir (fun _ => Z) (fun _ => ?_))
      rw [if_neg (show ¬ (4 : Int32) = 2 by decide)]
      exact Z
    · have n0 : ∀ k : Int32, ¬ x2 = k → x2.toInt ≠ k.toInt := fun k h e => h (wt_eqI e)
      have m0 := n0 0 c
      have m1 := n0 1 c1
      have m2 := n0 2 c2
      have m3 := n0 3 c3
      have m4 := n0 4 c4
      have k1 : (1 : Int32).toInt = 1 := by decide
      have k2 : (2 : Int32).toInt = 2 := by decide
      have k3 : (3 : Int32).toInt = 3 := by decide
      omega
