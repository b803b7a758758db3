-- 95e.set2.lean.txt
section WTQ0
set_option maxRecDepth 100000 in
set_option maxHeartbeats 8000000 in
theorem wr_stand (n : Nat) (hn : 4294967297 < n) {x1 x2 : Int32} {s z z0 : wt_St} (v : wt_IV z) (g0 : wt_fr (fun i k => i = 108 ∧ k = 0) (fun _ => False) z z0) (r0 : wt_RI z0) (tx : wu_TX s z) (lc : wu_LC s z) (sc : wu_SC s z) (hx0 : 0 ≤ x1.toInt) (hx1 : x1.toInt < (wt_gf z 108 39).toInt) : wt_HH ((wp_pg_stand n x1 x2 s).bind fun q5 => some ((0 : Nat), q5.1, q5.2)) ((wp_md_needsText n x1 z0).bind fun q9 => (wp_md_lacking n x2 q9).bind fun q10 => if q10.1 = (-1 : Int32) then wt_it (wp_md_set_B66 n x1 x2) n ((0 : Int32), q10.2) else some ((-1 : Int32), q10.2)) (fun q y => q.1 = 0 ∧ wt_gf y.2 108 0 = wt_gf z0 108 0 ∧ q.2.1 = y.1 ∧ wu_SC q.2.2 y.2) := by
  have k0 : (0 : Int32).toInt = 0 := by decide
  have k4 : (4 : Int32).toInt = 4 := by decide
  have hz : 0 ≤ (wt_gf z 108 39).toInt ∧ (wt_gf z 108 39).toInt ≤ 8 := wt_Rf7 v.1
  have et := wt_tnI hx0
  obtain ⟨tm, -, -, -, -, -, tn6⟩ := tx.2 (Int32.toNatClampNeg x1) (by omega)
  have sk := wu_SK_of lc sc
  unfold wp_pg_stand
  refine wt_HH_lb (wh_spell n hn (a := 78) (t := Int32.toNatClampNeg x1) (by decide) (by decide) (by omega) (by omega)) (fun s1 hs1 => ?_)
  obtain ⟨f1, nd1⟩ := hs1
  refine wt_HH_r (wq_md_needsText n hn x1 z0 r0 hx0 (by omega)).h (fun z1 hz1 => ?_)
  obtain ⟨fn, rz1, -, nd2⟩ := hz1
  have F1 : wt_fr (fun i k => i = 108 ∧ k = 0) (fun i => i = 287) z z1 := wt_fr.tr (wt_frw g0 (fun i k h => h) (fun i h => h.elim)) fn (fun i k h => h.elim) (fun i h => h)
  have sk1 : wu_SK 40 s1 z1 := wu_SK_fr sk f1 F1 ⟨by decide, by decide, by decide⟩ ⟨by decide, by decide, by decide⟩
  have nd : ∀ l, l < 26 → wt_ga s1 78 l = wt_ga z1 287 l := fun l hl => by
    refine wt_eqI ?_
    rw [nd1 l hl, tn6 l hl, nd2 l hl]
    exact (wt_nt_fr v.1 (by omega) (fun i _ j => g0.2 i (fun h => h) j)).symm
  have same : ∀ l, l < 26 → (wu_rd s1 40 x2.toInt l < (wt_ga s1 78 l).toInt ↔ wt_go z1 x2.toInt l < (wt_ga z1 287 l).toInt) := fun l hl => by
    rw [wu_rd_go sk1 hl, nd l hl]
  have sc1 : ∀ y' : wt_St, wt_fr (fun i k => i = 108 ∧ k = 0) (fun i => i = 287) z y' → wu_SC s1 y' := fun y' fy => wu_SC_fr sc f1 fy (fun _ _ h => h) (fun k hk => by (try dsimp only); omega) (fun i p q => by (try dsimp only); omega) (fun i h => by (try dsimp only); omega)
  have z10 : wt_gf z1 108 0 = wt_gf z0 108 0 := fn.1 108 0 (fun h => h)
  refine wt_HH_bb (wt_HH_of (wh_lacking n hn (by decide) (by decide) (fun l hl => (sk1 l hl).2.1)) (wh_lackingM n hn rz1) (Q := fun a b => a.2 = s1 ∧ b.2 = z1 ∧ a.1 = b.1 ∧ wt_fst 26 (fun l => wt_go z1 x2.toInt l < (wt_ga z1 287 l).toInt) b.1) (fun a b ha hb => ⟨ha.1, hb.1, wt_fst_u ha.2 hb.2 same, hb.2⟩)) (fun a b hab => ?_)
  obtain ⟨a1, b1, e, fb⟩ := hab
  rw [a1, b1, e]
  by_cases hm : b.1 = (-1 : Int32)
  · rw [if_pos hm, if_pos hm]
    refine wt_HH_lb (wh_firstFree n hn) (fun q4 h4 => ?_)
    obtain ⟨e4, ff⟩ := h4
    rw [e4]
    have pg : ∀ g, g < 4 → wt_ga s1 43 g = wt_ga z1 275 g := fun g hg => by
      rw [f1.2 43 (by decide), F1.2 275 (by decide)]
      exact (sc.2.2.2 g hg).1
    refine wt_HH_itr (fun u : Int32 × wt_St => u.2 = z1 ∧ 0 ≤ u.1.toInt ∧ u.1.toInt ≤ 4 ∧ ∀ g : Nat, (g : Int) < u.1.toInt → (wt_ga z1 275 g).toInt ≠ -1) (fun K u I hK => ?_) n _ ⟨rfl, by show 0 ≤ ((0 : Int32)).toInt; omega, by show ((0 : Int32)).toInt ≤ 4; omega, fun k hk => absurd (show (k : Int) < ((0 : Int32)).toInt from hk) (by omega)⟩
    obtain ⟨u0, u1, u2, u3⟩ := I
    have eu := wt_tnI u1
    unfold wp_md_set_B66
    rw [u0]
    refine wt_HH_ir (fun c => ?_) (fun c => ?_)
    · have c' := wt_cle c
      unfold wp_md_set_B87
      rw [if_pos (wt_eqI (a := u.1) (b := (4 : Int32)) (by omega))]
      rcases ff with ⟨w, w1, -, w3, -⟩ | ⟨w1, -⟩
      · exact absurd (by rw [← pg w w1]; exact w3) (u3 w (by omega))
      · rw [if_pos w1]
        exact wt_HH_some ⟨rfl, z10, rfl, sc1 _ F1⟩
    · have c' := wt_ncle c
      refine wt_HH_gr (fun _ => ?_)
      refine wt_HH_ir (fun d => ?_) (fun d => ?_)
      · have d' := (wt_ceq d).trans wt_lm1
        -- the same page, on both sides
        have eg : q4.1 = u.1 := by
          rcases ff with ⟨w, w1, w2, w3, w4⟩ | ⟨-, w2⟩
          · refine wt_eqI ?_
            rcases Nat.lt_trichotomy w (Int32.toNatClampNeg u.1) with h | h | h
            · exact absurd (by rw [← pg w w1]; exact w3) (u3 w (by omega))
            · omega
            · exact absurd (show (wt_ga s1 43 (Int32.toNatClampNeg u.1)).toInt = -1 from by rw [pg _ (by omega)]; exact d') (w4 _ h)
          · exact absurd (show (wt_ga s1 43 (Int32.toNatClampNeg u.1)).toInt = -1 from by rw [pg _ (by omega)]; exact d') (w2 (Int32.toNatClampNeg u.1) (by omega))
        rw [eg, if_neg (fun h => by have := wt_ceq h; rw [wt_lm1] at this; omega)]
        unfold wp_md_set_B87
        rw [if_neg (fun h => by have := wt_ceq h; omega)]
        unfold wp_md_takes
        refine wt_HH_rb (wh_lackingM n hn rz1) (fun b2 hb2 => ?_)
        obtain ⟨b21, fb2⟩ := hb2
        have e2 : b2.1 = b.1 := wt_fst_u fb2 fb (fun w hw => Iff.rfl)
        rw [b21, if_pos (e2.trans hm)]
        obtain ⟨z2, ε2⟩ : ∃ o : wt_St, o = wt_sf z1 108 54 (0 : Int32) := ⟨_, rfl⟩
        rw [← ε2]
        have h2 := wt_fr_sf ε2
        have F2 : wt_fr (fun i k => i = 108 ∧ (k = 0 ∨ k = 54)) (fun i => i = 287) z z2 := wt_fr.sf (wt_frw F1 (fun i k h => by (try dsimp only at h ⊢); omega) (fun i h => h)) ε2 (by first | decide | ((try dsimp only); omega))
        have free : (wt_ga z 275 (Int32.toNatClampNeg u.1)).toInt = -1 := by rw [← F1.2 275 (by decide)]; exact d'
        refine wt_HH_b (wr_standLoop n hn (g := Int32.toNatClampNeg u.1) (x1 := x1) (s0 := s1) (z0 := z2) (by omega) (by omega) (wu_SK_fr sk1 (wt_fr.rf (F := fun _ _ => False) (A := fun _ => False)) h2 ⟨fun h => h, fun h => h, fun h => h⟩ ⟨fun h => h, fun h => h, fun h => h⟩) ?_ (fun l hl => by rw [h2.2 287 (fun h => h)]; exact nd l hl) (by rw [wt_v_sf ε2]; exact k0) (fun l i hl hi ho => ?_)) (fun a' b' hab' => ?_)
        · rw [f1.1 39 9 (fun h => h), F2.1 108 26 (by decide)]; exact (wu_SC_SH sc).1
        · rw [F2.2 111 (by decide)] at hi
          rw [F2.2 124 (by decide)] at ho
          obtain ⟨-, -, p3⟩ := (sc.2.2.1 l hl).1 i hi
          rcases p3 with p3 | ⟨g', q1, q2, q3⟩
          · omega
          · have eg' : g' = Int32.toNatClampNeg u.1 := by omega
            rw [eg'] at q3
            exact q3 free
        · obtain ⟨y1, s', KK, ea, st⟩ := hab'
          rw [ea]
          refine wt_HH_gr (fun _ => ?_)
          refine wt_HH_gr (fun _ => ?_)
          refine wt_HH_of (P := fun q => q = ((0 : Nat), u.1, wt_sa s' 43 (Int32.toNatClampNeg u.1) x1)) (wt_H_some rfl) (wh_setTail n (g := Int32.toNatClampNeg u.1) (K := KK) (x := x1) (by omega) (by omega) st.2.1.1 st.2.1.2) (fun q y hq hy => ?_)
          obtain ⟨t1, t2, t3, t4, t5, t6, t7⟩ := hy
          rw [hq]
          refine ⟨rfl, ?_, t1.symm, wu_SC_set (by omega) hx0 v sc free f1 F2 st rfl t2 t3 t4 t5 t6 t7⟩
          rw [t2.1 108 0 (fun h => h), st.1.2.1 108 0 (by decide), h2.1 108 0 (by decide)]
          exact z10
      · have d' := wt_nceq d
        rw [wt_lm1] at d'
        have ei := wt_i1 (c := u.1) (by omega)
        refine hK _ ⟨rfl, by show 0 ≤ (u.1 + (1 : Int32)).toInt; omega, by show (u.1 + (1 : Int32)).toInt ≤ 4; omega, fun g hg => ?_⟩
        have hg' : (g : Int) < (u.1 + (1 : Int32)).toInt := hg
        by_cases hc : g = Int32.toNatClampNeg u.1
        · rw [hc]; exact d'
        · exact u3 g (by omega)
  · rw [if_neg hm, if_neg hm]
    exact wt_HH_some ⟨rfl, z10, rfl, sc1 _ F1⟩
set_option maxRecDepth 100000 in
set_option maxHeartbeats 8000000 in
theorem wr_set (n : Nat) (hn : 4294967297 < n) {x1 x2 : Int32} {s z : wt_St} (v : wt_IV z) (tx : wu_TX s z) (lc : wu_LC s z) (sc : wu_SC s z) : wt_HH (wp_ap_set n x1 x2 s) (wp_md_set n x1 x2 z) (fun q y => ((q.1 = 2 ∧ wt_gf y.2 108 0 = 1) ∨ (q.1 = 1 ∧ wt_gf y.2 108 0 = 2) ∨ (q.1 = 0 ∧ wt_gf y.2 108 0 = 0 ∧ q.2.1 = y.1)) ∧ wu_SC q.2.2 y.2) := by
  have k0 : (0 : Int32).toInt = 0 := by decide
  have hz : 0 ≤ (wt_gf z 108 39).toInt ∧ (wt_gf z 108 39).toInt ≤ 8 := wt_Rf7 v.1
  have eT := wt_ceq tx.1
  unfold wp_ap_set wp_md_set
  obtain ⟨z0, ε0⟩ : ∃ o : wt_St, o = wt_sf z 108 0 (0 : Int32) := ⟨_, rfl⟩
  rw [← ε0]
  have g0 := wt_fr_sf ε0
  have r0 := wt_RI_fno v.1 ε0 (Or.inr (by decide +kernel))
  have t0 : wt_gf z0 108 0 = 0 := wt_v_sf ε0
  have e39 : wt_gf z0 108 39 = wt_gf z 108 39 := g0.1 108 39 (by decide)
  have sc0 : ∀ z' : wt_St, wt_fr (fun i k => i = 108 ∧ k = 0) (fun _ => False) z z' → wu_SC s z' := fun z' g => wu_SC_fr sc (wt_fr.rf (F := fun _ _ => False) (A := fun _ => False)) g (fun _ _ h => h) (fun k hk => by (try dsimp only); omega) (fun _ _ _ h => h) (fun _ _ h => h)
  refine wt_HH_l (wh_txhas n) (fun q1 h1 => ?_)
  obtain ⟨a1, b1⟩ := h1
  rw [a1]
  refine wt_HH_r (wh_isText n (by rw [e39]; exact hz.1) (by rw [e39]; exact hz.2)) (fun y1 h1' => ?_)
  obtain ⟨a2, b2⟩ := h1'
  rw [a2]
  rw [e39] at b2
  unfold wp_ap_set_B16 wp_md_set_B19
  rcases b1 with ⟨c1, c2, c3⟩ | ⟨c1, c2⟩
  · rcases b2 with ⟨d1, -, -⟩ | ⟨d1, d2⟩
    · rw [if_neg (by rw [c1]; decide), if_neg (by rw [d1]; decide)]
      refine wt_HH_l (wh_miss0 n) (fun q hq => ?_)
      subst hq
      dsimp only
      rw [if_pos rfl]
      refine wt_HH_r (wh_bad0 n t0) (fun y hy => ?_)
      subst hy
      dsimp only
      rw [if_pos rfl]
      refine wt_HH_l (wh_copies n) (fun q4 h4 => ?_)
      refine wt_HH_r (wh_isCopies n) (fun y5 h5 => ?_)
      obtain ⟨a5, b5⟩ := h5
      rw [a5]
      unfold wp_md_set_B39
      rcases h4 with ⟨h4, f1, f2⟩ | ⟨h4, f1⟩
      · rcases b5 with ⟨i1, -, -⟩ | ⟨i1, i2⟩
        · subst h4
          dsimp only
          rw [if_pos rfl, if_neg (by rw [i1]; decide)]
          refine wt_HH_r (wh_bad0 n t0) (fun y hy => ?_)
          subst hy
          dsimp only
          rw [if_pos rfl]
          exact (wr_stand n hn v g0 r0 tx lc sc c2 (by omega)).imp (fun q y h => ⟨Or.inr (Or.inr ⟨h.1, h.2.1.trans t0, h.2.2.1⟩), h.2.2.2⟩)
        · omega
      · rcases b5 with ⟨i1, i2, i3⟩ | ⟨i1, -⟩
        · omega
        · subst h4
          dsimp only
          rw [if_neg (by decide), if_pos i1]
          refine wt_HH_r (wh_bad1 n t0 (by decide)) (fun y hy => ?_)
          subst hy
          dsimp only
          rw [if_neg (by decide)]
          exact wt_HH_some ⟨Or.inr (Or.inl ⟨rfl, wt_v_sf rfl⟩), sc0 _ (wt_fr.tr g0 (wt_fr_sf rfl) (fun i k h => h) (fun i h => h))⟩
    · omega
  · rcases b2 with ⟨d1, d2, d3⟩ | ⟨d1, -⟩
    · omega
    · rw [if_pos c1, if_pos d1]
      refine wt_HH_l (wh_miss1 n) (fun q hq => ?_)
      subst hq
      dsimp only
      rw [if_neg (by decide)]
      refine wt_HH_r (wh_bad1 n t0 (by decide)) (fun y hy => ?_)
      subst hy
      dsimp only
      rw [if_neg (by decide)]
      exact wt_HH_some ⟨Or.inl ⟨rfl, wt_v_sf rfl⟩, sc0 _ (wt_fr.tr g0 (wt_fr_sf rfl) (fun i k h => h) (fun i h => h))⟩
end WTQ0
-- 95f.pages.lean.txt
section WTQ1
/-! pages: counted over all pieces, or over the list of the page -/
theorem wt_sum_upd {F : Nat → Int} {j : Nat} : ∀ (N : Nat), wt_sum F N = wt_sum (fun c => if c = j then 0 else F c) N + if j < N then F j else 0 := by
  intro N
  induction N with
  | zero => rfl
  | succ N ih =>
    show wt_sum F N + F N = wt_sum (fun c => if c = j then 0 else F c) N + (if N = j then 0 else F N) + if j < N + 1 then F j else 0
    by_cases h : N = j
    · subst h
      rw [if_pos rfl, if_pos (by omega)]
      rw [if_neg (by omega)] at ih
      omega
    · rw [if_neg h]
      by_cases h2 : j < N
      · rw [if_pos h2] at ih
        rw [if_pos (by omega)]
        omega
      · rw [if_neg h2] at ih
        rw [if_neg (by omega)]
        omega
theorem wu_cov {N : Nat} {f : Nat → Int} {p : Nat → Nat} : ∀ (K : Nat) (F : Nat → Int), (∀ k, k < K → p k < N) → (∀ k, k < K → ∀ k', k' < k → p k' ≠ p k) → (∀ k, k < K → F (p k) = f (p k)) → (∀ c, c < N → (∀ k, k < K → p k ≠ c) → F c = 0) → wt_sum F N = wt_sum (fun k => f (p k)) K := by
  intro K
  induction K with
  | zero =>
    intro F _ _ _ h4
    have : wt_sum F N = wt_sum (fun _ => 0) N := wt_sum_congr N (fun c hc => h4 c hc (fun k hk => absurd hk (by omega)))
    rw [this]
    have hb := wt_sum_bd (f := fun _ => (0 : Int)) (c := 0) N (fun k _ => ⟨Int.le_refl _, Int.le_refl _⟩)
    show wt_sum (fun _ => 0) N = 0
    omega
  | succ K ih =>
    intro F h1 h2 h3 h4
    have e := wt_sum_upd (F := F) (j := p K) N
    rw [if_pos (h1 K (by omega)), h3 K (by omega)] at e
    have i := ih (fun c => if c = p K then 0 else F c) (fun k hk => h1 k (by omega)) (fun k hk => h2 k (by omega)) (fun k hk => by
      show (if p k = p K then 0 else F (p k)) = f (p k)
      rw [if_neg (h2 K (by omega) k hk)]
      exact h3 k (by omega)) (fun c hc hn => by
      show (if c = p K then 0 else F c) = 0
      by_cases hq : c = p K
      · rw [if_pos hq]
      · rw [if_neg hq]
        refine h4 c hc (fun k hk => ?_)
        by_cases hk2 : k = K
        · rw [hk2]; exact fun h => hq h.symm
        · exact hn k (by omega))
    show wt_sum F N = wt_sum (fun k => f (p k)) K + f (p K)
    omega
/-- the class's place of a piece that the reference names -/
def wu_pp (c : Int32) : Nat := 12 * (Int32.toNatClampNeg c / 13) + Int32.toNatClampNeg c % 13
theorem wu_pp_of {c : Int32} {l i : Nat} (h : c.toInt = ((13 * l + i : Nat) : Int)) (hi : i < 13) : wu_pp c = 12 * l + i := by
  have e : Int32.toNatClampNeg c = 13 * l + i := wt_tnN h
  unfold wu_pp
  omega
theorem wu_pageSum {s z : wt_St} {g : Nat} (v : wt_IV z) (sc : wu_SC s z) (hg : g < 4) (st : (wt_ga z 275 g).toInt ≠ -1) (f : Nat → Int) : wt_sum (fun c => if (wt_ga s 41 c).toInt = (g : Int) then f c else 0) 312 = wt_sum (fun k => f (wu_pp (wt_ga z (278 + g) k))) (Int32.toNatClampNeg (wt_ga z 276 g)) := by
  obtain ⟨-, -, sp, sg⟩ := sc
  obtain ⟨-, g2⟩ := sg g hg
  obtain ⟨g3, g4⟩ := g2 st
  have hb : 0 ≤ (wt_ga z 276 g).toInt ∧ (wt_ga z 276 g).toInt ≤ 108 := wt_Ra13 v.1 276 (by decide) (by decide) g
  have eK := wt_tnI hb.1
  refine wu_cov (p := fun k => wu_pp (wt_ga z (278 + g) k)) _ _ (fun k hk => ?_) (fun k hk k' hk' h => ?_) (fun k hk => ?_) (fun c hc hn => ?_)
  · obtain ⟨l, i, l1, l2, l3, -⟩ := g3 k (by omega)
    have m := v.2.1 l
    show wu_pp (wt_ga z (278 + g) k) < 312
    rw [wu_pp_of l3 (by omega)]
    omega
  · obtain ⟨l, i, l1, l2, l3, -⟩ := g3 k (by omega)
    obtain ⟨l', i', m1, m2, m3, -⟩ := g3 k' (by omega)
    have m := v.2.1 l
    have m' := v.2.1 l'
    have h' : wu_pp (wt_ga z (278 + g) k') = wu_pp (wt_ga z (278 + g) k) := h
    rw [wu_pp_of l3 (by omega), wu_pp_of m3 (by omega)] at h'
    have e3 : (wt_ga z (278 + g) k').toInt = ((13 * l' + i' : Nat) : Int) := m3
    have e4 : (wt_ga z (278 + g) k).toInt = ((13 * l + i : Nat) : Int) := l3
    exact v.2.2.2.1 g hg k k' hk' (by omega) (wt_eqI (by omega))
  · obtain ⟨l, i, l1, l2, l3, l4, -⟩ := g3 k (by omega)
    have m := v.2.1 l
    show (if (wt_ga s 41 (wu_pp (wt_ga z (278 + g) k))).toInt = (g : Int) then f (wu_pp (wt_ga z (278 + g) k)) else 0) = f (wu_pp (wt_ga z (278 + g) k))
    rw [wu_pp_of l3 (by omega), if_pos]
    have e := ((sp l l1).1 i l2).2.1
    have e' : wt_ga s 41 (12 * l + i) = wt_ga z 124 (13 * l + i) := e
    rw [e']; exact l4
  · show (if (wt_ga s 41 c).toInt = (g : Int) then f c else 0) = 0
    rw [if_neg]
    intro hp
    have ec : c = 12 * (c / 12) + c % 12 := by omega
    have hl : c / 12 < 26 := by omega
    by_cases hi : ((c % 12 : Nat) : Int) < (wt_ga z 111 (c / 12)).toInt
    · obtain ⟨-, e, -⟩ := (sp (c / 12) hl).1 (c % 12) hi
      have e' : wt_ga s 41 (12 * (c / 12) + c % 12) = wt_ga z 124 (13 * (c / 12) + c % 12) := e
      rw [← ec] at e'
      obtain ⟨k, k1, k2⟩ := g4 (c / 12) (c % 12) hl hi (by rw [← e']; exact hp)
      exact hn k (by omega) (by show wu_pp (wt_ga z (278 + g) k) = c; rw [wu_pp_of k2 (by omega)]; omega)
    · have e := (sp (c / 12) hl).2 (c % 12) (by omega) (by omega)
      have e' : (wt_ga s 41 (12 * (c / 12) + c % 12)).toInt = -1 := e
      rw [← ec] at e'
      omega
theorem wh_piecesOn (n : Nat) (hn : 4294967297 < n) {x : Int32} {s : wt_St} : wt_H (wp_pg_piecesOn n x s) (fun q => q.2 = s ∧ q.1.toInt = wt_sum (fun c => if (wt_ga s 41 c).toInt = x.toInt then 1 else 0) 312) := by
  have k0 : (0 : Int32).toInt = 0 := by decide
  have k1 : (1 : Int32).toInt = 1 := by decide
  have k312 : (312 : Int32).toInt = 312 := by decide
  unfold wp_pg_piecesOn
  refine wt_H_it (fun t : Int32 × Int32 × wt_St => t.2.2 = s ∧ 0 ≤ t.2.1.toInt ∧ t.2.1.toInt ≤ 312 ∧ t.1.toInt = wt_sum (fun c => if (wt_ga s 41 c).toInt = x.toInt then 1 else 0) (Int32.toNatClampNeg t.2.1) ∧ 0 ≤ t.1.toInt ∧ t.1.toInt ≤ t.2.1.toInt) (fun K t I hK => ?_) n _ ⟨rfl, by show 0 ≤ ((0 : Int32)).toInt; omega, by show ((0 : Int32)).toInt ≤ 312; omega, by show ((0 : Int32)).toInt = wt_sum _ (Int32.toNatClampNeg (0 : Int32)); rw [wt_tn0]; exact k0, by show 0 ≤ ((0 : Int32)).toInt; omega, by show ((0 : Int32)).toInt ≤ ((0 : Int32)).toInt; omega⟩
  obtain ⟨i0, i1, i2, i3, i4, i5⟩ := I
  have et := wt_tnI i1
  unfold wp_pg_piecesOn_B4
  rw [i0]
  refine wt_H_if (fun c => ?_) (fun c => ?_)
  · have c' := wt_cle c
    have e : Int32.toNatClampNeg t.2.1 = 312 := by omega
    rw [e] at i3
    exact wt_H_some ⟨rfl, i3⟩
  · have c' := wt_ncle c
    have ei := wt_i1 (c := t.2.1) (by omega)
    have en : Int32.toNatClampNeg (t.2.1 + (1 : Int32)) = Int32.toNatClampNeg t.2.1 + 1 := by have := wt_tnI (x := t.2.1 + (1 : Int32)) (by omega); omega
    have B : ∀ y : Int32, y.toInt = (if (wt_ga s 41 (Int32.toNatClampNeg t.2.1)).toInt = x.toInt then 1 else 0) → wt_H (wp_pg_piecesOn_B32 n x t.2.1 K t.1 y s) (fun q => q.2 = s ∧ q.1.toInt = wt_sum (fun c => if (wt_ga s 41 c).toInt = x.toInt then 1 else 0) 312) := by
      intro y hy
      have hy2 : 0 ≤ y.toInt ∧ y.toInt ≤ 1 := by
        rw [hy]
        split <;> omega
      have ea := wt_addE (x := t.1) (y := y) (by omega) (by omega)
      unfold wp_pg_piecesOn_B32
      refine hK _ ⟨rfl, by show 0 ≤ (t.2.1 + (1 : Int32)).toInt; omega, by show (t.2.1 + (1 : Int32)).toInt ≤ 312; omega, ?_, by show 0 ≤ (t.1 + y).toInt; omega, by show (t.1 + y).toInt ≤ (t.2.1 + (1 : Int32)).toInt; omega⟩
      show (t.1 + y).toInt = wt_sum _ (Int32.toNatClampNeg (t.2.1 + (1 : Int32)))
      rw [en]
      show _ = wt_sum _ (Int32.toNatClampNeg t.2.1) + (if (wt_ga s 41 (Int32.toNatClampNeg t.2.1)).toInt = x.toInt then 1 else 0)
      omega
    refine wt_H_bh (wh_look n hn (k := Int32.toNatClampNeg t.2.1) (by omega) (by rw [show wt_ln 41 = 312 from by decide]; omega)) (fun q2 h2 => ?_)
    subst h2
    dsimp only
    refine wt_H_if (fun d => B _ ?_) (fun d => B _ ?_)
    · rw [if_pos (wt_ceq d), k1]
    · rw [if_neg (wt_nceq d), k0]
theorem wh_clearPage (n : Nat) (hn : 4294967297 < n) {x : Int32} {g : Nat} {s : wt_St} (hx : x.toInt = (g : Int)) (hg : g < 4) : wt_H (wp_st_clearPage n 39 x s) (fun q => wt_fr (fun _ _ => False) (fun i => i = 41 ∨ i = 43) s q ∧ wt_ga q 43 g = -1 ∧ (∀ j, j ≠ g → wt_ga q 43 j = wt_ga s 43 j) ∧ ∀ c, c < 312 → wt_ga q 41 c = if (wt_ga s 41 c).toInt = (g : Int) then -1 else wt_ga s 41 c) := by
  have k0 : (0 : Int32).toInt = 0 := by decide
  have k312 : (312 : Int32).toInt = 312 := by decide
  unfold wp_st_clearPage
  refine wt_H_it (fun t : Int32 × wt_St => 0 ≤ t.1.toInt ∧ wt_fr (fun _ _ => False) (fun i => i = 41) s t.2 ∧ (∀ c : Nat, (c : Int) < t.1.toInt → wt_ga t.2 41 c = if (wt_ga s 41 c).toInt = (g : Int) then -1 else wt_ga s 41 c) ∧ ∀ c : Nat, t.1.toInt ≤ (c : Int) → wt_ga t.2 41 c = wt_ga s 41 c) (fun K t I hK => ?_) n _ ⟨by show 0 ≤ ((0 : Int32)).toInt; omega, wt_fr.rf, fun k hk => absurd (show (k : Int) < ((0 : Int32)).toInt from hk) (by omega), fun _ _ => rfl⟩
  obtain ⟨i0, f, i1, i2⟩ := I
  have et := wt_tnI i0
  unfold wp_st_clearPage_B2 wp_st_clearPage_B28
  refine wt_H_if (fun c => ?_) (fun c => ?_)
  · have c' := wt_cle c
    refine wt_H_bh (wh_put n (k := g) hx (by rw [show wt_ln (39 + 4) = 4 from by decide]; exact hg)) (fun q2 ε => ?_)
    have f2 := wt_fr_sa ε
    refine wt_H_some ⟨(wt_frw f (fun i k h => h) (fun i h => Or.inl h)).sa ε (Or.inr rfl), wt_v_sa ε, fun j hj => ?_, fun c2 hc2 => ?_⟩
    · have e := wt_w_sa ε j hj
      rw [show wt_ga q2 43 j = wt_ga t.2 43 j from e]; exact f.2 43 (by decide) j
    · rw [f2.2 41 (by decide)]; exact i1 c2 (by omega)
  · have c' := wt_ncle c
    have ei := wt_i1 (c := t.1) (by omega)
    refine wt_H_gd (fun _ => ?_)
    have e0 := i2 (Int32.toNatClampNeg t.1) (by omega)
    have e0' : wt_ga t.2 (39 + 2) (Int32.toNatClampNeg t.1) = wt_ga s 41 (Int32.toNatClampNeg t.1) := e0
    rw [e0']
    refine wt_H_if (fun d => ?_) (fun d => ?_)
    · have d' := wt_ceq d
      refine wt_H_gd (fun _ => ?_)
      obtain ⟨s1, ε⟩ : ∃ o : wt_St, o = wt_sa t.2 (39 + 2) (Int32.toNatClampNeg t.1) (-1 : Int32) := ⟨_, rfl⟩
      rw [← ε]
      have ε' : s1 = wt_sa t.2 41 (Int32.toNatClampNeg t.1) (-1 : Int32) := ε
      refine hK _ ⟨by show 0 ≤ (t.1 + (1 : Int32)).toInt; omega, f.sa ε' rfl, fun c2 hc2 => ?_, fun c2 hc2 => ?_⟩
      · have hc2' : (c2 : Int) < (t.1 + (1 : Int32)).toInt := hc2
        show wt_ga s1 41 c2 = _
        by_cases hq : c2 = Int32.toNatClampNeg t.1
        · rw [hq, wt_v_sa ε', if_pos (by omega)]
        · rw [wt_w_sa ε' c2 hq]; exact i1 c2 (by omega)
      · have hc2' : (t.1 + (1 : Int32)).toInt ≤ (c2 : Int) := hc2
        show wt_ga s1 41 c2 = _
        rw [wt_w_sa ε' c2 (by omega)]; exact i2 c2 (by omega)
    · have d' := wt_nceq d
      refine hK _ ⟨by show 0 ≤ (t.1 + (1 : Int32)).toInt; omega, f, fun c2 hc2 => ?_, fun c2 hc2 => i2 c2 (by have hc2' : (t.1 + (1 : Int32)).toInt ≤ (c2 : Int) := hc2; omega)⟩
      have hc2' : (c2 : Int) < (t.1 + (1 : Int32)).toInt := hc2
      by_cases hq : c2 = Int32.toNatClampNeg t.1
      · rw [hq, if_neg (by omega)]; exact e0
      · exact i1 c2 (by omega)
theorem wh_isPage (n : Nat) {x : Int32} {z : wt_St} : wt_H (wp_md_isPage n x z) (fun q => q.2 = z ∧ ((q.1 = 1 ∧ (0 ≤ x.toInt ∧ x.toInt < 4) ∧ (wt_ga z 275 (Int32.toNatClampNeg x)).toInt ≠ -1) ∨ (q.1 = 0 ∧ ¬ ((0 ≤ x.toInt ∧ x.toInt < 4) ∧ (wt_ga z 275 (Int32.toNatClampNeg x)).toInt ≠ -1)))) := by
  have k0 : (0 : Int32).toInt = 0 := by decide
  have k3 : (3 : Int32).toInt = 3 := by decide
  unfold wp_md_isPage
  refine wt_H_bh (wh_in n) (fun q1 h1 => ?_)
  obtain ⟨a, b⟩ := h1
  rw [a]
  rcases b with ⟨c1, c2⟩ | ⟨c1, c2, c3⟩
  · rw [if_pos c1]
    exact wt_H_some ⟨rfl, Or.inr ⟨rfl, by omega⟩⟩
  · rw [if_neg (by rw [c1]; decide)]
    refine wt_H_gd (fun _ => ?_)
    refine wt_H_if (fun d => ?_) (fun d => ?_)
    · have d' := (wt_ceq d).trans wt_lm1
      exact wt_H_some ⟨rfl, Or.inr ⟨rfl, fun h => h.2 d'⟩⟩
    · have d' := wt_nceq d
      rw [wt_lm1] at d'
      exact wt_H_some ⟨rfl, Or.inl ⟨rfl, by omega, d'⟩⟩
set_option maxRecDepth 100000 in
set_option maxHeartbeats 8000000 in
theorem wr_apart (n : Nat) (hn : 4294967297 < n) {x1 : Int32} {s z : wt_St} (v : wt_IV z) (sc : wu_SC s z) : wt_HH (wp_ap_apart n x1 s) (wp_md_apart n x1 z) (fun q y => ((q.1 = 2 ∧ wt_gf y.2 108 0 = 1) ∨ (q.1 = 0 ∧ wt_gf y.2 108 0 = 0 ∧ q.2.1 = y.1)) ∧ wu_SC q.2.2 y.2) := by
  have k0 : (0 : Int32).toInt = 0 := by decide
  unfold wp_ap_apart wp_md_apart
  obtain ⟨z0, ε0⟩ : ∃ o : wt_St, o = wt_sf z 108 0 (0 : Int32) := ⟨_, rfl⟩
  rw [← ε0]
  have g0 := wt_fr_sf ε0
  have t0 : wt_gf z0 108 0 = 0 := wt_v_sf ε0
  have sc0 : ∀ z' : wt_St, wt_fr (fun i k => i = 108 ∧ k = 0) (fun _ => False) z z' → wu_SC s z' := fun z' g => wu_SC_fr sc (wt_fr.rf (F := fun _ _ => False) (A := fun _ => False)) g (fun _ _ h => h) (fun k hk => by (try dsimp only); omega) (fun _ _ _ h => h) (fun _ _ h => h)
  have scz := sc0 z0 g0
  refine wt_HH_l (wh_stands n hn) (fun q1 h1 => ?_)
  obtain ⟨a1, b1⟩ := h1
  rw [a1]
  refine wt_HH_r (wh_isPage n) (fun y1 h1' => ?_)
  obtain ⟨a2, b2⟩ := h1'
  rw [a2]
  rw [g0.2 275 (fun h => h)] at b2
  unfold wp_ap_apart_B16 wp_md_apart_B19
  rcases b1 with ⟨c1, c2, c3⟩ | ⟨c1, c2⟩
  · have et := wt_tnI c2.1
    have pg : wt_ga s 43 (Int32.toNatClampNeg x1) = wt_ga z 275 (Int32.toNatClampNeg x1) := (sc.2.2.2 _ (by omega)).1
    rcases b2 with ⟨d1, d2, d3⟩ | ⟨d1, d2⟩
    · rw [if_neg (by rw [c1]; decide), if_neg (by rw [d1]; decide)]
      refine wt_HH_l (wh_miss0 n) (fun q hq => ?_)
      subst hq
      dsimp only
      rw [if_pos rfl]
      refine wt_HH_r (wh_bad0 n t0) (fun y hy => ?_)
      subst hy
      dsimp only
      rw [if_pos rfl]
      refine wt_HH_l (wh_piecesOn n hn) (fun q4 h4 => ?_)
      obtain ⟨e4, n4⟩ := h4
      rw [e4]
      have P := wu_pageSum v sc (g := Int32.toNatClampNeg x1) (by omega) d3 (fun _ => 1)
      have hb : 0 ≤ (wt_ga z 276 (Int32.toNatClampNeg x1)).toInt ∧ (wt_ga z 276 (Int32.toNatClampNeg x1)).toInt ≤ 108 := wt_Ra13 v.1 276 (by decide) (by decide) _
      have eK := wt_tnI hb.1
      rw [et] at P
      have P2 : wt_sum (fun k => (1 : Int)) (Int32.toNatClampNeg (wt_ga z 276 (Int32.toNatClampNeg x1))) = ((Int32.toNatClampNeg (wt_ga z 276 (Int32.toNatClampNeg x1)) : Nat) : Int) := wt_sum_all _ (fun _ _ => rfl)
      have n4' : q4.1 = wt_ga z 276 (Int32.toNatClampNeg x1) := wt_eqI (by rw [n4, P]; omega)
      refine wt_HH_l (wh_clearPage n hn (g := Int32.toNatClampNeg x1) (by omega) (by omega)) (fun q5 h5 => ?_)
      obtain ⟨f5, u1, u2, u3⟩ := h5
      refine wt_HH_r (wh_takesApart n (g := Int32.toNatClampNeg x1) (by omega) (by omega)) (fun y5 g5 => ?_)
      obtain ⟨fy, w1, w2, w3, w4⟩ := g5
      refine wt_HH_gr (fun _ => ?_)
      have FY : wt_fr (fun i k => i = 108 ∧ k = 0) (fun i => i = 124 ∨ i = 275) z y5 := wt_fr.tr (wt_frw g0 (fun i k h => h) (fun i h => h.elim)) fy (fun i k h => h.elim) (fun i h => h)
      have e276 : ∀ j, wt_ga y5 276 j = wt_ga z 276 j := FY.2 276 (by decide)
      have em : wt_ga y5 111 = wt_ga z 111 := funext (FY.2 111 (by decide))
      have Z276 : ∀ j, wt_ga z0 276 j = wt_ga z 276 j := g0.2 276 (fun h => h)
      have Z278 : ∀ j, wt_ga z0 (278 + Int32.toNatClampNeg x1) j = wt_ga z (278 + Int32.toNatClampNeg x1) j := g0.2 _ (fun h => h)
      have Z124 : ∀ j, wt_ga z0 124 j = wt_ga z 124 j := g0.2 124 (fun h => h)
      have Z275 : ∀ j, wt_ga z0 275 j = wt_ga z 275 j := g0.2 275 (fun h => h)
      obtain ⟨g3, g4⟩ := (sc.2.2.2 (Int32.toNatClampNeg x1) (by omega)).2 d3
      -- where a piece lies now
      have ON : ∀ l i : Nat, l < 26 → (i : Int) < (wt_ga z 111 l).toInt → wt_ga y5 124 (13 * l + i) = if (wt_ga z 124 (13 * l + i)).toInt = ((Int32.toNatClampNeg x1 : Nat) : Int) then -1 else wt_ga z 124 (13 * l + i) := by
        intro l i hl hi
        by_cases ho : (wt_ga z 124 (13 * l + i)).toInt = ((Int32.toNatClampNeg x1 : Nat) : Int)
        · rw [if_pos ho]
          obtain ⟨k, k1, k2⟩ := g4 l i hl hi ho
          have := w3 k (by rw [Z276]; exact k1)
          rw [Z278, wt_tnN k2] at this
          exact this
        · rw [if_neg ho, w4 _ (fun k hk h => ?_), Z124]
          rw [Z276] at hk
          rw [Z278] at h
          obtain ⟨l', i', m1, m2, m3, m4, -⟩ := g3 k hk
          rw [wt_tnN m3] at h
          have mm := v.2.1 l
          have mm' := v.2.1 l'
          have hl' : l' = l := by omega
          have hi' : i' = i := by omega
          rw [hl', hi'] at m4
          exact ho m4
      refine wt_HH_some ⟨Or.inr ⟨rfl, (fy.1 108 0 (fun h => h)).trans t0, ?_⟩, ?_, ?_, fun l hl => ?_, fun g' hg' => ?_⟩
      · show q4.1 = wt_ga y5 276 (Int32.toNatClampNeg x1)
        rw [e276]; exact n4'
      · show wu_SH (wt_gf q5 39 9) (wt_gf y5 108 26)
        rw [f5.1 39 9 (fun h => h), FY.1 108 26 (by decide)]; exact wu_SC_SH sc
      · exact wu_SW_eq (wu_SC_SW sc) (by rw [FY.1 108 39 (by decide)]; exact Int.le_refl _) (fun i p q => f5.2 i (by (try dsimp only); omega)) (f5.1 39 8 (fun h => h)) (fun i p q => FY.2 i (by (try dsimp only); omega)) (FY.1 108 40 (by decide))
      · show (∀ i : Nat, (i : Int) < (wt_ga y5 111 l).toInt → wt_ga q5 40 (12 * l + i) = wt_ga y5 121 (13 * l + i) ∧ wt_ga q5 41 (12 * l + i) = wt_ga y5 124 (13 * l + i) ∧ ((wt_ga y5 124 (13 * l + i)).toInt = -1 ∨ ∃ g, g < 4 ∧ (wt_ga y5 124 (13 * l + i)).toInt = ((g : Nat) : Int) ∧ (wt_ga y5 275 g).toInt ≠ -1)) ∧ ∀ i : Nat, i < 12 → (wt_ga y5 111 l).toInt ≤ (i : Int) → (wt_ga q5 41 (12 * l + i)).toInt = -1
        rw [em]
        obtain ⟨p1, p2⟩ := sc.2.2.1 l hl
        have mm := v.2.1 l
        refine ⟨fun i hi => ?_, fun i hi hj => ?_⟩
        · obtain ⟨a1, a2, a3⟩ := p1 i hi
          have a1' : wt_ga s 40 (12 * l + i) = wt_ga z 121 (13 * l + i) := a1
          have a2' : wt_ga s 41 (12 * l + i) = wt_ga z 124 (13 * l + i) := a2
          rw [f5.2 40 (by decide), FY.2 121 (by decide), u3 _ (by omega), ON l i hl hi, a2']
          refine ⟨a1', rfl, ?_⟩
          by_cases ho : (wt_ga z 124 (13 * l + i)).toInt = ((Int32.toNatClampNeg x1 : Nat) : Int)
          · rw [if_pos ho]; exact Or.inl wt_lm1
          · rw [if_neg ho]
            rcases a3 with a3 | ⟨g', b1', b2', b3'⟩
            · exact Or.inl a3
            · refine Or.inr ⟨g', b1', b2', ?_⟩
              rw [w2 g' (fun h => ho (by rw [b2', h])), Z275]; exact b3'
        · have e := p2 i hi hj
          have e' : (wt_ga s 41 (12 * l + i)).toInt = -1 := e
          rw [u3 _ (by omega), if_neg (by omega)]; exact e'
      · show wt_ga q5 43 g' = wt_ga y5 275 g' ∧ ((wt_ga y5 275 g').toInt ≠ -1 → (∀ k : Nat, (k : Int) < (wt_ga y5 276 g').toInt → ∃ l i : Nat, l < 26 ∧ (i : Int) < (wt_ga y5 111 l).toInt ∧ (wt_ga y5 (278 + g') k).toInt = ((13 * l + i : Nat) : Int) ∧ (wt_ga y5 124 (13 * l + i)).toInt = (g' : Int) ∧ (wt_ga q5 42 (12 * l + i)).toInt = wt_ct (fun k' => (wt_ga y5 (278 + g') k').toInt / 13) (l : Int) k) ∧ ∀ l i : Nat, l < 26 → (i : Int) < (wt_ga y5 111 l).toInt → (wt_ga y5 124 (13 * l + i)).toInt = (g' : Int) → ∃ k : Nat, (k : Int) < (wt_ga y5 276 g').toInt ∧ (wt_ga y5 (278 + g') k).toInt = ((13 * l + i : Nat) : Int))
        by_cases hq : g' = Int32.toNatClampNeg x1
        · rw [hq, u1]
          exact ⟨wt_eqI (wt_lm1.trans w1.symm), fun h => absurd w1 h⟩
        · obtain ⟨p1, p2⟩ := sc.2.2.2 g' hg'
          have p1' : wt_ga s 43 g' = wt_ga z 275 g' := p1
          have Y278 : ∀ k, wt_ga y5 (278 + g') k = wt_ga z (278 + g') k := FY.2 (278 + g') (by (try dsimp only); omega)
          rw [u2 g' hq, w2 g' hq, Z275, e276, em]
          refine ⟨p1', fun hne => ⟨fun k hk => ?_, fun l i hl hi ho => ?_⟩⟩
          · obtain ⟨l, i, u1', u2', u3', u4', u5'⟩ := (p2 hne).1 k hk
            have u4'' : (wt_ga z 124 (13 * l + i)).toInt = (g' : Int) := u4'
            refine ⟨l, i, u1', u2', by rw [Y278]; exact u3', ?_, ?_⟩
            · rw [ON l i u1' u2', if_neg (fun h => hq (by omega))]; exact u4''
            · rw [f5.2 42 (by decide)]
              have u5'' : (wt_ga s 42 (12 * l + i)).toInt = wt_ct (fun k' => (wt_ga z (278 + g') k').toInt / 13) (l : Int) k := u5'
              rw [u5'']
              exact (wt_ct_congr k (fun k' hk' => by show (wt_ga z (278 + g') k').toInt / 13 = (wt_ga y5 (278 + g') k').toInt / 13; rw [Y278]))
          · rw [ON l i hl hi] at ho
            by_cases ho2 : (wt_ga z 124 (13 * l + i)).toInt = ((Int32.toNatClampNeg x1 : Nat) : Int)
            · rw [if_pos ho2, wt_lm1] at ho
              omega
            · rw [if_neg ho2] at ho
              obtain ⟨k, w1', w2'⟩ := (p2 hne).2 l i hl hi ho
              exact ⟨k, w1', by rw [Y278]; exact w2'⟩
    · exact absurd ⟨c2, by rw [← pg]; exact c3⟩ d2
  · rcases b2 with ⟨d1, d2, d3⟩ | ⟨d1, -⟩
    · exfalso
      have pg : wt_ga s 43 (Int32.toNatClampNeg x1) = wt_ga z 275 (Int32.toNatClampNeg x1) := (sc.2.2.2 _ (by have := wt_tnI d2.1; omega)).1
      exact c2 ⟨d2, by rw [pg]; exact d3⟩
    · rw [if_pos c1, if_pos d1]
      refine wt_HH_l (wh_miss1 n) (fun q hq => ?_)
      subst hq
      dsimp only
      rw [if_neg (by decide)]
      refine wt_HH_r (wh_bad1 n t0 (by decide)) (fun y hy => ?_)
      subst hy
      dsimp only
      rw [if_neg (by decide)]
      exact wt_HH_some ⟨Or.inl ⟨rfl, wt_v_sf rfl⟩, sc0 _ (wt_fr.tr g0 (wt_fr_sf rfl) (fun i k h => h) (fun i h => h))⟩
end WTQ1
-- 95g.print.lean.txt
section WTQ2
/-- the least of what those have left of which P holds, or v -/
def wu_min (N : Nat) (P : Nat → Prop) (f : Nat → Int) (v r : Int) : Prop := (r = v ∨ ∃ c, c < N ∧ P c ∧ r = f c) ∧ r ≤ v ∧ ∀ c, c < N → P c → r ≤ f c
theorem wh_leastLeftOn (n : Nat) (hn : 4294967297 < n) {x : Int32} {s : wt_St} : wt_H (wp_pg_leastLeftOn n x s) (fun q => q.2 = s ∧ wu_min 312 (fun c => (wt_ga s 41 c).toInt = x.toInt) (fun c => (wt_ga s 40 c).toInt) 1000000 q.1.toInt) := by
  have k0 : (0 : Int32).toInt = 0 := by decide
  have kM : (1000000 : Int32).toInt = 1000000 := by decide
  have k312 : (312 : Int32).toInt = 312 := by decide
  unfold wp_pg_leastLeftOn
  refine wt_H_it (fun t : Int32 × Int32 × wt_St => t.2.2 = s ∧ 0 ≤ t.2.1.toInt ∧ t.2.1.toInt ≤ 312 ∧ wu_min (Int32.toNatClampNeg t.2.1) (fun c => (wt_ga s 41 c).toInt = x.toInt) (fun c => (wt_ga s 40 c).toInt) 1000000 t.1.toInt) (fun K t I hK => ?_) n _ ⟨rfl, by show 0 ≤ ((0 : Int32)).toInt; omega, by show ((0 : Int32)).toInt ≤ 312; omega, by show wu_min (Int32.toNatClampNeg (0 : Int32)) _ _ _ ((1000000 : Int32)).toInt; rw [wt_tn0, kM]; exact ⟨Or.inl rfl, Int.le_refl _, fun c hc => absurd hc (by omega)⟩⟩
  obtain ⟨i0, i1, i2, i3⟩ := I
  have et := wt_tnI i1
  unfold wp_pg_leastLeftOn_B5
  rw [i0]
  refine wt_H_if (fun c => ?_) (fun c => ?_)
  · have c' := wt_cle c
    have e : Int32.toNatClampNeg t.2.1 = 312 := by omega
    rw [e] at i3
    exact wt_H_some ⟨rfl, i3⟩
  · have c' := wt_ncle c
    have ei := wt_i1 (c := t.2.1) (by omega)
    have en : Int32.toNatClampNeg (t.2.1 + (1 : Int32)) = Int32.toNatClampNeg t.2.1 + 1 := by have := wt_tnI (x := t.2.1 + (1 : Int32)) (by omega); omega
    refine wt_H_bh (wh_look n hn (k := Int32.toNatClampNeg t.2.1) (by omega) (by rw [show wt_ln 41 = 312 from by decide]; omega)) (fun q2 h2 => ?_)
    subst h2
    dsimp only
    obtain ⟨j1, j2, j3⟩ := i3
    unfold wp_pg_leastLeftOn_B43
    refine wt_H_if (fun d => ?_) (fun d => ?_)
    · have d' := wt_ceq d
      refine wt_H_bh (wh_look n hn (k := Int32.toNatClampNeg t.2.1) (by omega) (by rw [show wt_ln 40 = 312 from by decide]; omega)) (fun q4 h4 => ?_)
      subst h4
      dsimp only
      refine hK _ ⟨rfl, by show 0 ≤ (t.2.1 + (1 : Int32)).toInt; omega, by show (t.2.1 + (1 : Int32)).toInt ≤ 312; omega, ?_⟩
      show wu_min (Int32.toNatClampNeg (t.2.1 + (1 : Int32))) _ _ _ (if wt_ga s 40 (Int32.toNatClampNeg t.2.1) < t.1 then wt_ga s 40 (Int32.toNatClampNeg t.2.1) else t.1).toInt
      rw [en]
      by_cases f : wt_ga s 40 (Int32.toNatClampNeg t.2.1) < t.1
      · have f' := wt_clt f
        rw [if_pos f]
        refine ⟨Or.inr ⟨Int32.toNatClampNeg t.2.1, by omega, d', rfl⟩, by omega, fun c hc hp => ?_⟩
        by_cases hq : c = Int32.toNatClampNeg t.2.1
        · rw [hq]; exact Int.le_refl _
        · have := j3 c (by omega) hp
          omega
      · have f' := wt_ncl f
        rw [if_neg f]
        refine ⟨j1.imp (fun h => h) (fun ⟨c, c1, c2, c3⟩ => ⟨c, by omega, c2, c3⟩), j2, fun c hc hp => ?_⟩
        by_cases hq : c = Int32.toNatClampNeg t.2.1
        · rw [hq]; exact f'
        · exact j3 c (by omega) hp
    · have d' := wt_nceq d
      refine hK _ ⟨rfl, by show 0 ≤ (t.2.1 + (1 : Int32)).toInt; omega, by show (t.2.1 + (1 : Int32)).toInt ≤ 312; omega, ?_⟩
      show wu_min (Int32.toNatClampNeg (t.2.1 + (1 : Int32))) _ _ _ t.1.toInt
      rw [en]
      refine ⟨j1.imp (fun h => h) (fun ⟨c, c1, c2, c3⟩ => ⟨c, by omega, c2, c3⟩), j2, fun c hc hp => ?_⟩
      by_cases hq : c = Int32.toNatClampNeg t.2.1
      · rw [hq] at hp; exact absurd hp d'
      · exact j3 c (by omega) hp
theorem wh_leastOf (n : Nat) {x : Int32} {g : Nat} {z : wt_St} (hx : x.toInt = (g : Int)) (hK : (wt_ga z 276 g).toInt ≤ 108) : wt_H (wp_md_leastOf n x z) (fun q => q.2 = z ∧ wu_min (Int32.toNatClampNeg (wt_ga z 276 g)) (fun _ => True) (fun k => (wt_ga z 121 (Int32.toNatClampNeg (wt_ga z (278 + g) k))).toInt) 400 q.1.toInt) := by
  have k0 : (0 : Int32).toInt = 0 := by decide
  have k4 : (400 : Int32).toInt = 400 := by decide
  have eg : Int32.toNatClampNeg x = g := wt_tnN hx
  unfold wp_md_leastOf
  refine wt_H_it (fun t : Int32 × Int32 × wt_St => t.2.2 = z ∧ 0 ≤ t.2.1.toInt ∧ (t.2.1.toInt ≤ (wt_ga z 276 g).toInt ∨ t.2.1.toInt = 0) ∧ wu_min (Int32.toNatClampNeg t.2.1) (fun _ => True) (fun k => (wt_ga z 121 (Int32.toNatClampNeg (wt_ga z (278 + g) k))).toInt) 400 t.1.toInt) (fun K t I hK => ?_) n _ ⟨rfl, by show 0 ≤ ((0 : Int32)).toInt; omega, Or.inr k0, by show wu_min (Int32.toNatClampNeg (0 : Int32)) _ _ _ ((400 : Int32)).toInt; rw [wt_tn0, k4]; exact ⟨Or.inl rfl, Int.le_refl _, fun c hc => absurd hc (by omega)⟩⟩
  obtain ⟨i0, i1, i2, i3⟩ := I
  have et := wt_tnI i1
  unfold wp_md_leastOf_B6 wp_md_leastOf_B50
  rw [i0, eg]
  refine wt_H_gd (fun _ => ?_)
  refine wt_H_if (fun c => ?_) (fun c => ?_)
  · have c' := wt_cle c
    have e : Int32.toNatClampNeg t.2.1 = Int32.toNatClampNeg (wt_ga z 276 g) := by
      rcases wt_tn (wt_ga z 276 g) with h | h
      · have : Int32.toNatClampNeg (wt_ga z 276 g) = 0 := by unfold Int32.toNatClampNeg; omega
        omega
      · omega
    rw [e] at i3
    exact wt_H_some ⟨rfl, i3⟩
  · have c' := wt_ncle c
    have ei := wt_i1 (c := t.2.1) (by omega)
    have en : Int32.toNatClampNeg (t.2.1 + (1 : Int32)) = Int32.toNatClampNeg t.2.1 + 1 := by have := wt_tnI (x := t.2.1 + (1 : Int32)) (by omega); omega
    refine wt_H_gd (fun _ => ?_)
    refine wt_H_gd (fun _ => ?_)
    refine wt_H_gd (fun _ => ?_)
    obtain ⟨j1, j2, j3⟩ := i3
    refine wt_H_if (fun d => ?_) (fun d => ?_)
    · have d' := wt_cle d
      refine hK _ ⟨rfl, by show 0 ≤ (t.2.1 + (1 : Int32)).toInt; omega, Or.inl (by show (t.2.1 + (1 : Int32)).toInt ≤ _; omega), ?_⟩
      show wu_min (Int32.toNatClampNeg (t.2.1 + (1 : Int32))) _ _ _ t.1.toInt
      rw [en]
      refine ⟨j1.imp (fun h => h) (fun ⟨c, c1, c2, c3⟩ => ⟨c, by omega, c2, c3⟩), j2, fun c hc hp => ?_⟩
      by_cases hq : c = Int32.toNatClampNeg t.2.1
      · rw [hq]; exact d'
      · exact j3 c (by omega) hp
    · have d' := wt_ncle d
      refine wt_H_gd (fun _ => ?_)
      refine wt_H_gd (fun _ => ?_)
      refine wt_H_gd (fun _ => ?_)
      refine hK _ ⟨rfl, by show 0 ≤ (t.2.1 + (1 : Int32)).toInt; omega, Or.inl (by show (t.2.1 + (1 : Int32)).toInt ≤ _; omega), ?_⟩
      show wu_min (Int32.toNatClampNeg (t.2.1 + (1 : Int32))) _ _ _ (wt_ga z 121 (Int32.toNatClampNeg (wt_ga z (278 + g) (Int32.toNatClampNeg t.2.1)))).toInt
      rw [en]
      refine ⟨Or.inr ⟨Int32.toNatClampNeg t.2.1, by omega, trivial, rfl⟩, by omega, fun c hc hp => ?_⟩
      by_cases hq : c = Int32.toNatClampNeg t.2.1
      · rw [hq]; exact Int.le_refl _
      · have := j3 c (by omega) hp
        omega
/-- prints go off the pieces of a page, on the one side -/
theorem wh_pressLoop (n : Nat) (hn : 4294967297 < n) {x1 x2 : Int32} {s : wt_St} : wt_H (wt_it (wp_pg_press_B16 n x1 x2) n ((0 : Int32), (0 : Int32), s)) (fun q => wt_fr (fun _ _ => False) (fun i => i = 40) s q.2 ∧ (∀ c, c < 312 → wt_ga q.2 40 c = if (wt_ga s 41 c).toInt = x1.toInt then (wt_ga s 40 c) - x2 else wt_ga s 40 c) ∧ q.1.toInt = wt_sum (fun c => if (wt_ga s 41 c).toInt = x1.toInt then (if (wt_ga s 40 c) - x2 = 0 then 1 else 0) else 0) 312) := by
  have k0 : (0 : Int32).toInt = 0 := by decide
  have k1 : (1 : Int32).toInt = 1 := by decide
  have k312 : (312 : Int32).toInt = 312 := by decide
  refine wt_H_it (fun t : Int32 × Int32 × wt_St => 0 ≤ t.2.1.toInt ∧ t.2.1.toInt ≤ 312 ∧ wt_fr (fun _ _ => False) (fun i => i = 40) s t.2.2 ∧ (∀ c : Nat, (c : Int) < t.2.1.toInt → wt_ga t.2.2 40 c = if (wt_ga s 41 c).toInt = x1.toInt then (wt_ga s 40 c) - x2 else wt_ga s 40 c) ∧ (∀ c : Nat, t.2.1.toInt ≤ (c : Int) → wt_ga t.2.2 40 c = wt_ga s 40 c) ∧ t.1.toInt = wt_sum (fun c => if (wt_ga s 41 c).toInt = x1.toInt then (if (wt_ga s 40 c) - x2 = 0 then 1 else 0) else 0) (Int32.toNatClampNeg t.2.1) ∧ 0 ≤ t.1.toInt ∧ t.1.toInt ≤ t.2.1.toInt) (fun K t I hK => ?_) n _ ⟨by show 0 ≤ ((0 : Int32)).toInt; omega, by show ((0 : Int32)).toInt ≤ 312; omega, wt_fr.rf, fun k hk => absurd (show (k : Int) < ((0 : Int32)).toInt from hk) (by omega), fun _ _ => rfl, by show ((0 : Int32)).toInt = wt_sum _ (Int32.toNatClampNeg (0 : Int32)); rw [wt_tn0]; exact k0, by show 0 ≤ ((0 : Int32)).toInt; omega, by show ((0 : Int32)).toInt ≤ ((0 : Int32)).toInt; omega⟩
  obtain ⟨i1, i2, f, i3, i4, i5, i6, i7⟩ := I
  have et := wt_tnI i1
  unfold wp_pg_press_B16
  refine wt_H_if (fun c => ?_) (fun c => ?_)
  · have c' := wt_cle c
    have e : Int32.toNatClampNeg t.2.1 = 312 := by omega
    rw [e] at i5
    exact wt_H_some ⟨f, fun c hc => i3 c (by omega), i5⟩
  · have c' := wt_ncle c
    have ei := wt_i1 (c := t.2.1) (by omega)
    have en : Int32.toNatClampNeg (t.2.1 + (1 : Int32)) = Int32.toNatClampNeg t.2.1 + 1 := by have := wt_tnI (x := t.2.1 + (1 : Int32)) (by omega); omega
    have B : ∀ (y : Int32) (q : wt_St), y.toInt = (if (wt_ga s 41 (Int32.toNatClampNeg t.2.1)).toInt = x1.toInt then (if (wt_ga s 40 (Int32.toNatClampNeg t.2.1)) - x2 = 0 then 1 else 0) else 0) → wt_fr (fun _ _ => False) (fun i => i = 40) s q → (∀ c, c ≠ Int32.toNatClampNeg t.2.1 → wt_ga q 40 c = wt_ga t.2.2 40 c) → wt_ga q 40 (Int32.toNatClampNeg t.2.1) = (if (wt_ga s 41 (Int32.toNatClampNeg t.2.1)).toInt = x1.toInt then (wt_ga s 40 (Int32.toNatClampNeg t.2.1)) - x2 else wt_ga s 40 (Int32.toNatClampNeg t.2.1)) → wt_H (K ((t.1 + y), (t.2.1 + (1 : Int32)), q)) (fun q => wt_fr (fun _ _ => False) (fun i => i = 40) s q.2 ∧ (∀ c, c < 312 → wt_ga q.2 40 c = if (wt_ga s 41 c).toInt = x1.toInt then (wt_ga s 40 c) - x2 else wt_ga s 40 c) ∧ q.1.toInt = wt_sum (fun c => if (wt_ga s 41 c).toInt = x1.toInt then (if (wt_ga s 40 c) - x2 = 0 then 1 else 0) else 0) 312) := by
      intro y q hy fq oq vq
      have hy2 : 0 ≤ y.toInt ∧ y.toInt ≤ 1 := by
        rw [hy]
        split
        · split <;> omega
        · omega
      have ea := wt_addE (x := t.1) (y := y) (by omega) (by omega)
      refine hK _ ⟨by show 0 ≤ (t.2.1 + (1 : Int32)).toInt; omega, by show (t.2.1 + (1 : Int32)).toInt ≤ 312; omega, fq, fun c hc => ?_, fun c hc => ?_, ?_, by show 0 ≤ (t.1 + y).toInt; omega, by show (t.1 + y).toInt ≤ (t.2.1 + (1 : Int32)).toInt; omega⟩
      · have hc' : (c : Int) < (t.2.1 + (1 : Int32)).toInt := hc
        by_cases hq : c = Int32.toNatClampNeg t.2.1
        · rw [hq]; exact vq
        · show wt_ga q 40 c = _
          rw [oq c hq]; exact i3 c (by omega)
      · have hc' : (t.2.1 + (1 : Int32)).toInt ≤ (c : Int) := hc
        show wt_ga q 40 c = _
        rw [oq c (by omega)]; exact i4 c (by omega)
      · show (t.1 + y).toInt = wt_sum _ (Int32.toNatClampNeg (t.2.1 + (1 : Int32)))
        rw [en]
        show _ = wt_sum _ (Int32.toNatClampNeg t.2.1) + (if (wt_ga s 41 (Int32.toNatClampNeg t.2.1)).toInt = x1.toInt then (if (wt_ga s 40 (Int32.toNatClampNeg t.2.1)) - x2 = 0 then 1 else 0) else 0)
        omega
    refine wt_H_bh (wh_look n hn (k := Int32.toNatClampNeg t.2.1) (by omega) (by rw [show wt_ln 41 = 312 from by decide]; omega)) (fun q4 h4 => ?_)
    subst h4
    dsimp only
    rw [f.2 41 (by decide)]
    have e40 := i4 (Int32.toNatClampNeg t.2.1) (by omega)
    refine wt_H_if (fun d => ?_) (fun d => ?_)
    · have d' := wt_ceq d
      refine wt_H_bh (wh_look n hn (k := Int32.toNatClampNeg t.2.1) (by omega) (by rw [show wt_ln 40 = 312 from by decide]; omega)) (fun q6 h6 => ?_)
      subst h6
      dsimp only
      rw [e40]
      refine wt_H_bh (wh_put n (k := Int32.toNatClampNeg t.2.1) (by omega) (by rw [show wt_ln 40 = 312 from by decide]; omega)) (fun q7 ε => ?_)
      unfold wp_pg_press_B81 wp_pg_press_B83
      refine wt_H_if (fun h => B _ _ ?_ (f.sa ε rfl) (fun c hc => wt_w_sa ε c hc) ?_) (fun h => B _ _ ?_ (f.sa ε rfl) (fun c hc => wt_w_sa ε c hc) ?_)
      · rw [if_pos d', if_pos h, k1]
      · rw [if_pos d', wt_v_sa ε]
      · rw [if_pos d', if_neg h, k0]
      · rw [if_pos d', wt_v_sa ε]
    · have d' := wt_nceq d
      unfold wp_pg_press_B83
      have R := B 0 t.2.2 (by rw [if_neg d', k0]) f (fun _ _ => rfl) (by rw [if_neg d']; exact e40)
      rw [show t.1 + (0 : Int32) = t.1 from wt_eqI (by have := wt_addE (x := t.1) (y := (0 : Int32)) (by omega) (by omega); omega)] at R
      exact R
/-- and on the other: no piece stands twice in the list -/
theorem wh_printLoop (n : Nat) {x1 x2 : Int32} {g : Nat} {z : wt_St} (hx : x1.toInt = (g : Int)) (hg : g < 4) (hK : 0 ≤ (wt_ga z 276 g).toInt ∧ (wt_ga z 276 g).toInt ≤ 108) (hd : ∀ k k' : Nat, k' < k → (k : Int) < (wt_ga z 276 g).toInt → Int32.toNatClampNeg (wt_ga z (278 + g) k') ≠ Int32.toNatClampNeg (wt_ga z (278 + g) k)) : wt_H (wt_it (wp_md_print_B64 n x1 x2) n ((0 : Int32), (0 : Int32), z)) (fun y => wt_fr (fun _ _ => False) (fun i => i = 121) z y.2 ∧ (∀ k : Nat, (k : Int) < (wt_ga z 276 g).toInt → wt_ga y.2 121 (Int32.toNatClampNeg (wt_ga z (278 + g) k)) = (wt_ga z 121 (Int32.toNatClampNeg (wt_ga z (278 + g) k))) - x2) ∧ (∀ c, (∀ k : Nat, (k : Int) < (wt_ga z 276 g).toInt → Int32.toNatClampNeg (wt_ga z (278 + g) k) ≠ c) → wt_ga y.2 121 c = wt_ga z 121 c) ∧ y.1.toInt = wt_sum (fun k => if (wt_ga z 121 (Int32.toNatClampNeg (wt_ga z (278 + g) k))) - x2 = 0 then 1 else 0) (Int32.toNatClampNeg (wt_ga z 276 g))) := by
  have k0 : (0 : Int32).toInt = 0 := by decide
  have k1 : (1 : Int32).toInt = 1 := by decide
  have eg : Int32.toNatClampNeg x1 = g := wt_tnN hx
  have eKK := wt_tnI hK.1
  refine wt_H_it (fun t : Int32 × Int32 × wt_St => 0 ≤ t.2.1.toInt ∧ t.2.1.toInt ≤ (wt_ga z 276 g).toInt ∧ wt_fr (fun _ _ => False) (fun i => i = 121) z t.2.2 ∧ (∀ k : Nat, (k : Int) < t.2.1.toInt → wt_ga t.2.2 121 (Int32.toNatClampNeg (wt_ga z (278 + g) k)) = (wt_ga z 121 (Int32.toNatClampNeg (wt_ga z (278 + g) k))) - x2) ∧ (∀ c, (∀ k : Nat, (k : Int) < t.2.1.toInt → Int32.toNatClampNeg (wt_ga z (278 + g) k) ≠ c) → wt_ga t.2.2 121 c = wt_ga z 121 c) ∧ t.1.toInt = wt_sum (fun k => if (wt_ga z 121 (Int32.toNatClampNeg (wt_ga z (278 + g) k))) - x2 = 0 then 1 else 0) (Int32.toNatClampNeg t.2.1) ∧ 0 ≤ t.1.toInt ∧ t.1.toInt ≤ t.2.1.toInt) (fun K t I hKc => ?_) n _ ⟨by show 0 ≤ ((0 : Int32)).toInt; omega, by show ((0 : Int32)).toInt ≤ _; omega, wt_fr.rf, fun k hk => absurd (show (k : Int) < ((0 : Int32)).toInt from hk) (by omega), fun _ _ => rfl, by show ((0 : Int32)).toInt = wt_sum _ (Int32.toNatClampNeg (0 : Int32)); rw [wt_tn0]; exact k0, by show 0 ≤ ((0 : Int32)).toInt; omega, by show ((0 : Int32)).toInt ≤ ((0 : Int32)).toInt; omega⟩
  obtain ⟨i1, i2, f, i3, i4, i5, i6, i7⟩ := I
  have et := wt_tnI i1
  unfold wp_md_print_B64 wp_md_print_B116
  rw [eg, f.2 276 (by decide), f.2 (278 + g) (by (try dsimp only); omega)]
  refine wt_H_gd (fun _ => ?_)
  refine wt_H_if (fun c => ?_) (fun c => ?_)
  · have c' := wt_cle c
    have e : Int32.toNatClampNeg t.2.1 = Int32.toNatClampNeg (wt_ga z 276 g) := by omega
    rw [e] at i5
    exact wt_H_some ⟨f, fun k hk => i3 k (by omega), fun c hc => i4 c (fun k hk => hc k (by omega)), i5⟩
  · have c' := wt_ncle c
    have ei := wt_i1 (c := t.2.1) (by omega)
    have en : Int32.toNatClampNeg (t.2.1 + (1 : Int32)) = Int32.toNatClampNeg t.2.1 + 1 := by have := wt_tnI (x := t.2.1 + (1 : Int32)) (by omega); omega
    have e121 := i4 (Int32.toNatClampNeg (wt_ga z (278 + g) (Int32.toNatClampNeg t.2.1))) (fun k hk => hd _ k (by omega) (by omega))
    rw [e121]
    refine wt_H_gd (fun _ => ?_)
    refine wt_H_gd (fun _ => ?_)
    refine wt_H_gd (fun _ => ?_)
    refine wt_H_gd (fun _ => ?_)
    refine wt_H_gd (fun _ => ?_)
    refine wt_H_gd (fun _ => ?_)
    obtain ⟨s1, ε⟩ : ∃ o : wt_St, o = wt_sa t.2.2 121 (Int32.toNatClampNeg (wt_ga z (278 + g) (Int32.toNatClampNeg t.2.1))) ((wt_ga z 121 (Int32.toNatClampNeg (wt_ga z (278 + g) (Int32.toNatClampNeg t.2.1)))) - x2) := ⟨_, rfl⟩
    rw [← ε]
    have f1 := wt_fr_sa ε
    have e278 : wt_ga s1 (278 + g) (Int32.toNatClampNeg t.2.1) = wt_ga z (278 + g) (Int32.toNatClampNeg t.2.1) := by rw [f1.2 (278 + g) (by (try dsimp only); omega)]; exact f.2 (278 + g) (by (try dsimp only); omega) _
    rw [e278, wt_v_sa ε]
    refine wt_H_gd (fun _ => ?_)
    have B : ∀ y : Int32, y.toInt = (if (wt_ga z 121 (Int32.toNatClampNeg (wt_ga z (278 + g) (Int32.toNatClampNeg t.2.1)))) - x2 = 0 then 1 else 0) → wt_H (K ((t.1 + y), (t.2.1 + (1 : Int32)), s1)) (fun y => wt_fr (fun _ _ => False) (fun i => i = 121) z y.2 ∧ (∀ k : Nat, (k : Int) < (wt_ga z 276 g).toInt → wt_ga y.2 121 (Int32.toNatClampNeg (wt_ga z (278 + g) k)) = (wt_ga z 121 (Int32.toNatClampNeg (wt_ga z (278 + g) k))) - x2) ∧ (∀ c, (∀ k : Nat, (k : Int) < (wt_ga z 276 g).toInt → Int32.toNatClampNeg (wt_ga z (278 + g) k) ≠ c) → wt_ga y.2 121 c = wt_ga z 121 c) ∧ y.1.toInt = wt_sum (fun k => if (wt_ga z 121 (Int32.toNatClampNeg (wt_ga z (278 + g) k))) - x2 = 0 then 1 else 0) (Int32.toNatClampNeg (wt_ga z 276 g))) := by
      intro y hy
      have hy2 : 0 ≤ y.toInt ∧ y.toInt ≤ 1 := by
        rw [hy]
        split <;> omega
      have ea := wt_addE (x := t.1) (y := y) (by omega) (by omega)
      refine hKc _ ⟨by show 0 ≤ (t.2.1 + (1 : Int32)).toInt; omega, by show (t.2.1 + (1 : Int32)).toInt ≤ _; omega, f.sa ε rfl, fun k hk => ?_, fun c hc => ?_, ?_, by show 0 ≤ (t.1 + y).toInt; omega, by show (t.1 + y).toInt ≤ (t.2.1 + (1 : Int32)).toInt; omega⟩
      · have hk' : (k : Int) < (t.2.1 + (1 : Int32)).toInt := hk
        show wt_ga s1 121 _ = _
        by_cases hq : k = Int32.toNatClampNeg t.2.1
        · rw [hq]; exact wt_v_sa ε
        · rw [wt_w_sa ε _ (hd _ k (by omega) (by omega))]; exact i3 k (by omega)
      · have hc' : ∀ k : Nat, (k : Int) < (t.2.1 + (1 : Int32)).toInt → Int32.toNatClampNeg (wt_ga z (278 + g) k) ≠ c := hc
        show wt_ga s1 121 c = _
        rw [wt_w_sa ε c (fun h => hc' (Int32.toNatClampNeg t.2.1) (by omega) h.symm)]
        exact i4 c (fun k hk => hc' k (by omega))
      · show (t.1 + y).toInt = wt_sum _ (Int32.toNatClampNeg (t.2.1 + (1 : Int32)))
        rw [en]
        show _ = wt_sum _ (Int32.toNatClampNeg t.2.1) + (if (wt_ga z 121 (Int32.toNatClampNeg (wt_ga z (278 + g) (Int32.toNatClampNeg t.2.1)))) - x2 = 0 then 1 else 0)
        omega
    refine wt_H_if (fun h => B _ ?_) (fun h => B _ ?_)
    · rw [if_pos h, k1]
    · rw [if_neg h, k0]
end WTQ2
-- 95h.print2.lean.txt
section WTQ3
theorem wu_min_le {N : Nat} {P : Nat → Prop} {f : Nat → Int} {v r x : Int} (h : wu_min N P f v r) (hx : x ≤ v) : x ≤ r ↔ ∀ c, c < N → P c → x ≤ f c := by
  obtain ⟨a, b, c⟩ := h
  constructor
  · intro hr c' hc hp
    have := c c' hc hp
    omega
  · intro hall
    rcases a with a | ⟨c', c1, c2, c3⟩
    · omega
    · have := hall c' c1 c2
      omega
theorem wu_pm1 {s z : wt_St} {g : Nat} (v : wt_IV z) (sc : wu_SC s z) (hg : g < 4) (st : (wt_ga z 275 g).toInt ≠ -1) (k : Nat) (hk : (k : Int) < (wt_ga z 276 g).toInt) : ∃ l i : Nat, l < 26 ∧ (i : Int) < (wt_ga z 111 l).toInt ∧ i < 12 ∧ Int32.toNatClampNeg (wt_ga z (278 + g) k) = 13 * l + i ∧ (wt_ga z 124 (13 * l + i)).toInt = (g : Int) ∧ (wt_ga s 41 (12 * l + i)).toInt = (g : Int) ∧ wt_ga s 40 (12 * l + i) = wt_ga z 121 (13 * l + i) ∧ wu_pp (wt_ga z (278 + g) k) = 12 * l + i ∧ (wt_ga s 42 (12 * l + i)).toInt = wt_ct (fun k' => (wt_ga z (278 + g) k').toInt / 13) (l : Int) k := by
  obtain ⟨-, -, sp, sg⟩ := sc
  obtain ⟨l, i, l1, l2, l3, l4, l5⟩ := ((sg g hg).2 st).1 k hk
  have m := v.2.1 l
  obtain ⟨a1, a2, -⟩ := (sp l l1).1 i l2
  have a2' : wt_ga s 41 (12 * l + i) = wt_ga z 124 (13 * l + i) := a2
  exact ⟨l, i, l1, l2, by omega, wt_tnN l3, l4, by rw [a2']; exact l4, a1, wu_pp_of l3 (by omega), l5⟩
theorem wu_pm2 {s z : wt_St} {g : Nat} (v : wt_IV z) (sc : wu_SC s z) (hg : g < 4) (st : (wt_ga z 275 g).toInt ≠ -1) (c : Nat) (hc : c < 312) (hp : (wt_ga s 41 c).toInt = (g : Int)) : ∃ l i k : Nat, l < 26 ∧ (i : Int) < (wt_ga z 111 l).toInt ∧ c = 12 * l + i ∧ (k : Int) < (wt_ga z 276 g).toInt ∧ Int32.toNatClampNeg (wt_ga z (278 + g) k) = 13 * l + i := by
  obtain ⟨-, -, sp, sg⟩ := sc
  have g4 := ((sg g hg).2 st).2
  have ec : c = 12 * (c / 12) + c % 12 := by omega
  have hl : c / 12 < 26 := by omega
  by_cases hi : ((c % 12 : Nat) : Int) < (wt_ga z 111 (c / 12)).toInt
  · obtain ⟨-, e, -⟩ := (sp (c / 12) hl).1 (c % 12) hi
    have e' : wt_ga s 41 (12 * (c / 12) + c % 12) = wt_ga z 124 (13 * (c / 12) + c % 12) := e
    rw [← ec] at e'
    obtain ⟨k, k1, k2⟩ := g4 (c / 12) (c % 12) hl hi (by rw [← e']; exact hp)
    exact ⟨c / 12, c % 12, k, hl, hi, ec, k1, wt_tnN k2⟩
  · have e := (sp (c / 12) hl).2 (c % 12) (by omega) (by omega)
    have e' : (wt_ga s 41 (12 * (c / 12) + c % 12)).toInt = -1 := e
    rw [← ec] at e'
    omega
theorem wu_pd {z : wt_St} {s : wt_St} {g : Nat} (v : wt_IV z) (sc : wu_SC s z) (hg : g < 4) (st : (wt_ga z 275 g).toInt ≠ -1) : ∀ k k' : Nat, k' < k → (k : Int) < (wt_ga z 276 g).toInt → Int32.toNatClampNeg (wt_ga z (278 + g) k') ≠ Int32.toNatClampNeg (wt_ga z (278 + g) k) := by
  intro k k' hk hk2 h
  obtain ⟨l, i, l1, l2, l3, -⟩ := ((sc.2.2.2 g hg).2 st).1 k hk2
  obtain ⟨l', i', m1, m2, m3, -⟩ := ((sc.2.2.2 g hg).2 st).1 k' (by omega)
  have l3' : (wt_ga z (278 + g) k).toInt = ((13 * l + i : Nat) : Int) := l3
  have m3' : (wt_ga z (278 + g) k').toInt = ((13 * l' + i' : Nat) : Int) := m3
  rw [wt_tnN l3', wt_tnN m3'] at h
  exact v.2.2.2.1 g hg k k' hk hk2 (wt_eqI (by omega))
set_option maxRecDepth 100000 in
set_option maxHeartbeats 8000000 in
theorem wr_press (n : Nat) (hn : 4294967297 < n) {x1 x2 : Int32} {s z z0 : wt_St} (v : wt_IV z) (g0 : wt_fr (fun i k => i = 108 ∧ k = 0) (fun _ => False) z z0) (v0 : wt_IV z0) (sc : wu_SC s z) (hx : 0 ≤ x1.toInt ∧ x1.toInt < 4) (st : (wt_ga z 275 (Int32.toNatClampNeg x1)).toInt ≠ -1) (h1 : 1 ≤ x2.toInt) (h4 : x2.toInt ≤ 400) : wt_HH ((wp_pg_press n x1 x2 s).bind fun q5 => some ((0 : Nat), q5.1, q5.2)) ((wp_md_leastOf n x1 z0).bind fun q9 => if x2 ≤ q9.1 then wt_it (wp_md_print_B64 n x1 x2) n ((0 : Int32), (0 : Int32), q9.2) else some ((-1 : Int32), q9.2)) (fun q y => q.1 = 0 ∧ wt_gf y.2 108 0 = wt_gf z0 108 0 ∧ q.2.1 = y.1 ∧ wu_SC q.2.2 y.2) := by
  have et := wt_tnI hx.1
  have scz : wu_SC s z0 := wu_SC_fr sc (wt_fr.rf (F := fun _ _ => False) (A := fun _ => False)) g0 (fun _ _ h => h) (fun k hk => by (try dsimp only); omega) (fun _ _ _ h => h) (fun _ _ h => h)
  have st0 : (wt_ga z0 275 (Int32.toNatClampNeg x1)).toInt ≠ -1 := by rw [g0.2 275 (fun h => h)]; exact st
  have hb : 0 ≤ (wt_ga z0 276 (Int32.toNatClampNeg x1)).toInt ∧ (wt_ga z0 276 (Int32.toNatClampNeg x1)).toInt ≤ 108 := wt_Ra13 v0.1 276 (by decide) (by decide) _
  have eK := wt_tnI hb.1
  have M1 := wu_pm1 v0 scz (g := Int32.toNatClampNeg x1) (by omega) st0
  have M2 := wu_pm2 v0 scz (g := Int32.toNatClampNeg x1) (by omega) st0
  have D := wu_pd v0 scz (g := Int32.toNatClampNeg x1) (by omega) st0
  unfold wp_pg_press
  refine wt_HH_lb (wh_leastLeftOn n hn) (fun q1 hq1 => ?_)
  obtain ⟨a1, m1⟩ := hq1
  rw [a1]
  refine wt_HH_r (wh_leastOf n (g := Int32.toNatClampNeg x1) (by omega) hb.2) (fun y1 hy1 => ?_)
  obtain ⟨a2, m2⟩ := hy1
  rw [a2]
  have iff : x2.toInt ≤ q1.1.toInt ↔ x2.toInt ≤ y1.1.toInt := by
    rw [wu_min_le m1 (by omega), wu_min_le m2 (by omega)]
    constructor
    · intro h k hk _
      obtain ⟨l, i, l1, l2, l3, l4, l5, l6, l7, -⟩ := M1 k (by omega)
      have := h (12 * l + i) (by omega) (by show (wt_ga s 41 (12 * l + i)).toInt = x1.toInt; omega)
      show x2.toInt ≤ (wt_ga z0 121 (Int32.toNatClampNeg (wt_ga z0 (278 + Int32.toNatClampNeg x1) k))).toInt
      rw [l4, ← l7]; exact this
    · intro h c hc hp
      have hp' : (wt_ga s 41 c).toInt = x1.toInt := hp
      obtain ⟨l, i, k, l1, l2, l3, l4, l5⟩ := M2 c hc (by omega)
      have := h k (by omega) trivial
      have this' : x2.toInt ≤ (wt_ga z0 121 (Int32.toNatClampNeg (wt_ga z0 (278 + Int32.toNatClampNeg x1) k))).toInt := this
      rw [l5] at this'
      have e := ((scz.2.2.1 l l1).1 i l2).1
      have e' : wt_ga s 40 (12 * l + i) = wt_ga z0 121 (13 * l + i) := e
      show x2.toInt ≤ (wt_ga s 40 c).toInt
      rw [l3, e']; exact this'
  by_cases hle : x2 ≤ q1.1
  · have hle' := wt_cle hle
    rw [if_pos hle, if_pos (Int32.le_iff_toInt_le.mpr (iff.mp hle'))]
    refine wt_HH_of (P := fun q : Nat × Int32 × wt_St => q.1 = 0 ∧ (wt_fr (fun _ _ => False) (fun i => i = 40) s q.2.2 ∧ (∀ c, c < 312 → wt_ga q.2.2 40 c = if (wt_ga s 41 c).toInt = x1.toInt then (wt_ga s 40 c) - x2 else wt_ga s 40 c) ∧ q.2.1.toInt = wt_sum (fun c => if (wt_ga s 41 c).toInt = x1.toInt then (if (wt_ga s 40 c) - x2 = 0 then 1 else 0) else 0) 312)) (wt_H_bh (wh_pressLoop n hn) (fun a ha => wt_H_some ⟨rfl, ha⟩)) (wh_printLoop n (g := Int32.toNatClampNeg x1) (by omega) (by omega) hb D) (fun q y hq hy => ?_)
    obtain ⟨q0, fq, cq, nq⟩ := hq
    obtain ⟨fy, cy, oy, ny⟩ := hy
    have em : wt_ga y.2 111 = wt_ga z0 111 := funext (fy.2 111 (by decide))
    have LF : ∀ l i : Nat, l < 26 → (i : Int) < (wt_ga z0 111 l).toInt → wt_ga q.2.2 40 (12 * l + i) = wt_ga y.2 121 (13 * l + i) := by
      intro l i hl hi
      have mm := v0.2.1 l
      obtain ⟨e1, e2, -⟩ := (scz.2.2.1 l hl).1 i hi
      have e1' : wt_ga s 40 (12 * l + i) = wt_ga z0 121 (13 * l + i) := e1
      have e2' : wt_ga s 41 (12 * l + i) = wt_ga z0 124 (13 * l + i) := e2
      rw [cq _ (by omega)]
      by_cases ho : (wt_ga s 41 (12 * l + i)).toInt = x1.toInt
      · rw [if_pos ho]
        obtain ⟨k, k1, k2⟩ := ((scz.2.2.2 _ (show Int32.toNatClampNeg x1 < 4 by omega)).2 st0).2 l i hl hi (by show (wt_ga z0 124 (13 * l + i)).toInt = _; rw [← e2']; omega)
        have := cy k k1
        rw [wt_tnN k2] at this
        rw [this, e1']
      · rw [if_neg ho, oy _ (fun k hk h => ?_)]
        · exact e1'
        · obtain ⟨l', i', l1, l2, l3, l4, l5, l6, -⟩ := M1 k hk
          rw [l4] at h
          have hl' : l' = l := by omega
          have hi' : i' = i := by omega
          rw [hl', hi'] at l6
          omega
    refine ⟨q0, fy.1 108 0 (fun h => h), wt_eqI ?_, ?_, ?_, fun l hl => ?_, fun g' hg' => ?_⟩
    · rw [nq, ny]
      have P := wu_pageSum v0 scz (g := Int32.toNatClampNeg x1) (by omega) st0 (fun c => if (wt_ga s 40 c) - x2 = 0 then 1 else 0)
      rw [et] at P
      rw [P]
      refine wt_sum_congr _ (fun k hk => ?_)
      obtain ⟨l, i, l1, l2, l3, l4, l5, l6, l7, l8, -⟩ := M1 k (by omega)
      show (if (wt_ga s 40 (wu_pp (wt_ga z0 (278 + Int32.toNatClampNeg x1) k))) - x2 = 0 then (1 : Int) else 0) = if (wt_ga z0 121 (Int32.toNatClampNeg (wt_ga z0 (278 + Int32.toNatClampNeg x1) k))) - x2 = 0 then 1 else 0
      rw [l8, l4, l7]
    · rw [fq.1 39 9 (fun h => h), fy.1 108 26 (fun h => h)]; exact wu_SC_SH scz
    · exact wu_SW_eq (wu_SC_SW scz) (by rw [fy.1 108 39 (fun h => h)]; exact Int.le_refl _) (fun i p q => fq.2 i (by (try dsimp only); omega)) (fq.1 39 8 (fun h => h)) (fun i p q => fy.2 i (by (try dsimp only); omega)) (fy.1 108 40 (fun h => h))
    · show (∀ i : Nat, (i : Int) < (wt_ga y.2 111 l).toInt → wt_ga q.2.2 40 (12 * l + i) = wt_ga y.2 121 (13 * l + i) ∧ wt_ga q.2.2 41 (12 * l + i) = wt_ga y.2 124 (13 * l + i) ∧ ((wt_ga y.2 124 (13 * l + i)).toInt = -1 ∨ ∃ g, g < 4 ∧ (wt_ga y.2 124 (13 * l + i)).toInt = ((g : Nat) : Int) ∧ (wt_ga y.2 275 g).toInt ≠ -1)) ∧ ∀ i : Nat, i < 12 → (wt_ga y.2 111 l).toInt ≤ (i : Int) → (wt_ga q.2.2 41 (12 * l + i)).toInt = -1
      rw [em, show wt_ga q.2.2 41 = wt_ga s 41 from funext (fq.2 41 (by decide)), show wt_ga y.2 124 = wt_ga z0 124 from funext (fy.2 124 (by decide)), show wt_ga y.2 275 = wt_ga z0 275 from funext (fy.2 275 (by decide))]
      obtain ⟨p1, p2⟩ := scz.2.2.1 l hl
      exact ⟨fun i hi => ⟨LF l i hl hi, (p1 i hi).2⟩, p2⟩
    · show wt_ga q.2.2 43 g' = wt_ga y.2 275 g' ∧ ((wt_ga y.2 275 g').toInt ≠ -1 → (∀ k : Nat, (k : Int) < (wt_ga y.2 276 g').toInt → ∃ l i : Nat, l < 26 ∧ (i : Int) < (wt_ga y.2 111 l).toInt ∧ (wt_ga y.2 (278 + g') k).toInt = ((13 * l + i : Nat) : Int) ∧ (wt_ga y.2 124 (13 * l + i)).toInt = (g' : Int) ∧ (wt_ga q.2.2 42 (12 * l + i)).toInt = wt_ct (fun k' => (wt_ga y.2 (278 + g') k').toInt / 13) (l : Int) k) ∧ ∀ l i : Nat, l < 26 → (i : Int) < (wt_ga y.2 111 l).toInt → (wt_ga y.2 124 (13 * l + i)).toInt = (g' : Int) → ∃ k : Nat, (k : Int) < (wt_ga y.2 276 g').toInt ∧ (wt_ga y.2 (278 + g') k).toInt = ((13 * l + i : Nat) : Int))
      rw [em, show wt_ga q.2.2 43 = wt_ga s 43 from funext (fq.2 43 (by decide)), show wt_ga q.2.2 42 = wt_ga s 42 from funext (fq.2 42 (by decide)), show wt_ga y.2 124 = wt_ga z0 124 from funext (fy.2 124 (by decide)), show wt_ga y.2 275 = wt_ga z0 275 from funext (fy.2 275 (by decide)), show wt_ga y.2 276 = wt_ga z0 276 from funext (fy.2 276 (by decide)), show wt_ga y.2 (278 + g') = wt_ga z0 (278 + g') from funext (fy.2 (278 + g') (by (try dsimp only); omega))]
      exact scz.2.2.2 g' hg'
  · have hle' := wt_ncle hle
    rw [if_neg hle, if_neg (fun h => by have := iff.mpr (wt_cle h); omega)]
    exact wt_HH_some ⟨rfl, rfl, rfl, scz⟩
set_option maxRecDepth 100000 in
set_option maxHeartbeats 8000000 in
theorem wr_print (n : Nat) (hn : 4294967297 < n) {x1 x2 : Int32} {s z : wt_St} (v : wt_IV z) (sc : wu_SC s z) : wt_HH (wp_ap_print n x1 x2 s) (wp_md_print n x1 x2 z) (fun q y => ((q.1 = 2 ∧ wt_gf y.2 108 0 = 1) ∨ (q.1 = 1 ∧ wt_gf y.2 108 0 = 2) ∨ (q.1 = 0 ∧ wt_gf y.2 108 0 = 0 ∧ q.2.1 = y.1)) ∧ wu_SC q.2.2 y.2) := by
  unfold wp_ap_print wp_md_print
  obtain ⟨z0, ε0⟩ : ∃ o : wt_St, o = wt_sf z 108 0 (0 : Int32) := ⟨_, rfl⟩
  rw [← ε0]
  have g0 := wt_fr_sf ε0
  have v0 : wt_IV z0 := wt_IV_fr v (wt_RI_fno v.1 ε0 (Or.inr (by decide +kernel))) g0 (by omega) (by omega) (fun i _ h => h)
  have t0 : wt_gf z0 108 0 = 0 := wt_v_sf ε0
  have sc0 : ∀ z' : wt_St, wt_fr (fun i k => i = 108 ∧ k = 0) (fun _ => False) z z' → wu_SC s z' := fun z' g => wu_SC_fr sc (wt_fr.rf (F := fun _ _ => False) (A := fun _ => False)) g (fun _ _ h => h) (fun k hk => by (try dsimp only); omega) (fun _ _ _ h => h) (fun _ _ h => h)
  refine wt_HH_l (wh_stands n hn) (fun q1 h1 => ?_)
  obtain ⟨a1, b1⟩ := h1
  rw [a1]
  refine wt_HH_r (wh_isPage n) (fun y1 h1' => ?_)
  obtain ⟨a2, b2⟩ := h1'
  rw [a2]
  rw [g0.2 275 (fun h => h)] at b2
  unfold wp_ap_print_B16 wp_md_print_B19
  rcases b1 with ⟨c1, c2, c3⟩ | ⟨c1, c2⟩
  · have et := wt_tnI c2.1
    have pg : wt_ga s 43 (Int32.toNatClampNeg x1) = wt_ga z 275 (Int32.toNatClampNeg x1) := (sc.2.2.2 _ (by omega)).1
    rcases b2 with ⟨d1, d2, d3⟩ | ⟨d1, d2⟩
    · rw [if_neg (by rw [c1]; decide), if_neg (by rw [d1]; decide)]
      refine wt_HH_l (wh_miss0 n) (fun q hq => ?_)
      subst hq
      dsimp only
      rw [if_pos rfl]
      refine wt_HH_r (wh_bad0 n t0) (fun y hy => ?_)
      subst hy
      dsimp only
      rw [if_pos rfl]
      refine wt_HH_l (wh_copies n) (fun q4 h4 => ?_)
      refine wt_HH_r (wh_isCopies n) (fun y5 h5 => ?_)
      obtain ⟨a5, b5⟩ := h5
      rw [a5]
      unfold wp_md_print_B39
      rcases h4 with ⟨h4, f1, f2⟩ | ⟨h4, f1⟩
      · rcases b5 with ⟨i1, -, -⟩ | ⟨i1, i2⟩
        · subst h4
          dsimp only
          rw [if_pos rfl, if_neg (by rw [i1]; decide)]
          refine wt_HH_r (wh_bad0 n t0) (fun y hy => ?_)
          subst hy
          dsimp only
          rw [if_pos rfl]
          exact (wr_press n hn v g0 v0 sc c2 d3 f1 f2).imp (fun q y h => ⟨Or.inr (Or.inr ⟨h.1, h.2.1.trans t0, h.2.2.1⟩), h.2.2.2⟩)
        · omega
      · rcases b5 with ⟨i1, i2, i3⟩ | ⟨i1, -⟩
        · omega
        · subst h4
          dsimp only
          rw [if_neg (by decide), if_pos i1]
          refine wt_HH_r (wh_bad1 n t0 (by decide)) (fun y hy => ?_)
          subst hy
          dsimp only
          rw [if_neg (by decide)]
          exact wt_HH_some ⟨Or.inr (Or.inl ⟨rfl, wt_v_sf rfl⟩), sc0 _ (wt_fr.tr g0 (wt_fr_sf rfl) (fun i k h => h) (fun i h => h))⟩
    · exact absurd ⟨c2, by rw [← pg]; exact c3⟩ d2
  · rcases b2 with ⟨d1, d2, d3⟩ | ⟨d1, -⟩
    · exfalso
      have pg : wt_ga s 43 (Int32.toNatClampNeg x1) = wt_ga z 275 (Int32.toNatClampNeg x1) := (sc.2.2.2 _ (by have := wt_tnI d2.1; omega)).1
      exact c2 ⟨d2, by rw [pg]; exact d3⟩
    · rw [if_pos c1, if_pos d1]
      refine wt_HH_l (wh_miss1 n) (fun q hq => ?_)
      subst hq
      dsimp only
      rw [if_neg (by decide)]
      refine wt_HH_r (wh_bad1 n t0 (by decide)) (fun y hy => ?_)
      subst hy
      dsimp only
      rw [if_neg (by decide)]
      exact wt_HH_some ⟨Or.inl ⟨rfl, wt_v_sf rfl⟩, sc0 _ (wt_fr.tr g0 (wt_fr_sf rfl) (fun i k h => h) (fun i h => h))⟩
end WTQ3
-- 96a.told.lean.txt
section WTQ4
/-! told, letter, piece, lacks on both sides -/
theorem wr_standing (n : Nat) (hn : 4294967297 < n) {s z : wt_St} (h : ∀ g, g < 4 → wt_ga s 43 g = wt_ga z 275 g) : wt_HH (wp_pg_standing n s) (wp_md_standing n z) (fun q y => q.1 = y.1 ∧ q.2 = s ∧ y.2 = z) := by
  have k0 : (0 : Int32).toInt = 0 := by decide
  have k4 : (4 : Int32).toInt = 4 := by decide
  unfold wp_pg_standing wp_md_standing
  refine wt_HH_it (fun a b : Int32 × Int32 × wt_St => a.1 = b.1 ∧ a.2.1 = b.2.1 ∧ a.2.2 = s ∧ b.2.2 = z ∧ 0 ≤ b.2.1.toInt) (fun K K' a b I hK => ?_) n n _ _ ⟨rfl, rfl, rfl, rfl, by show 0 ≤ ((0 : Int32)).toInt; omega⟩
  obtain ⟨i1, i2, i3, i4, i5⟩ := I
  have et := wt_tnI i5
  unfold wp_pg_standing_B4 wp_md_standing_B4
  rw [i1, i2, i3, i4]
  refine wt_HH_il (fun c => ?_) (fun c => ?_)
  · rw [if_pos c]
    exact wt_HH_some ⟨rfl, rfl, rfl⟩
  · rw [if_neg c]
    have c' := wt_ncle c
    have ei := wt_i1 (c := b.2.1) (by omega)
    refine wt_HH_l (wh_stands n hn) (fun q1 h1 => ?_)
    obtain ⟨e1, h1⟩ := h1
    rw [e1]
    refine wt_HH_gr (fun _ => ?_)
    have hg := h (Int32.toNatClampNeg b.2.1) (by omega)
    have N : ∀ w : Int32, wt_HH (wp_pg_standing_B23 n b.2.1 K b.1 w s) (wp_md_standing_B25 n b.2.1 K' b.1 w z) (fun q y => q.1 = y.1 ∧ q.2 = s ∧ y.2 = z) := fun w => by
      unfold wp_pg_standing_B23 wp_md_standing_B25
      exact hK _ _ ⟨rfl, rfl, rfl, rfl, by show 0 ≤ (b.2.1 + (1 : Int32)).toInt; omega⟩
    rcases h1 with ⟨u, -, v⟩ | ⟨u, v⟩
    · rw [if_neg (show ¬ q1.1 = 0 by rw [u]; decide)]
      rw [hg] at v
      exact wt_HH_ir (fun d => absurd ((wt_ceq d).trans wt_lm1) v) (fun _ => N 1)
    · rw [if_pos (show q1.1 = 0 from u)]
      rw [hg] at v
      exact wt_HH_ir (fun _ => N 0) (fun d => absurd ⟨⟨i5, by omega⟩, fun e => d (wt_eqI (e.trans wt_lm1.symm))⟩ v)
theorem wr_told (n : Nat) (hn : 4294967297 < n) {x1 : Int32} {s z : wt_St} (rl : wu_RL s z) : wt_HH (wp_ap_told n x1 s) (wp_md_told n x1 z) (fun q y => (q.1 = 1 ∧ wt_gf y.2 108 0 = 1) ∨ (q.1 = 0 ∧ wt_gf y.2 108 0 = 0 ∧ q.2.1 = y.1)) := by
  have k0 : (0 : Int32).toInt = 0 := by decide
  have k7 : (7 : Int32).toInt = 7 := by decide
  obtain ⟨-, -, to, lc, tx, sc, -⟩ := rl
  unfold wp_ap_told wp_md_told
  obtain ⟨z0, ε0⟩ : ∃ o : wt_St, o = wt_sf z 108 0 (0 : Int32) := ⟨_, rfl⟩
  rw [← ε0]
  have g0 := wt_fr_sf ε0
  have t0 : wt_gf z0 108 0 = 0 := wt_v_sf ε0
  obtain ⟨W, G, ⟨w1, w2, -⟩, ⟨w3, w4, -⟩, -, -⟩ := to
  have eW : wt_gf s 20 6 = wt_gf z0 108 28 := (wt_eqI (w1.trans w2.symm)).trans (g0.1 108 28 (by decide)).symm
  have eG : wt_gf s 20 7 = wt_gf z0 108 30 := (wt_eqI (w3.trans w4.symm)).trans (g0.1 108 30 (by decide)).symm
  have eT : wt_gf s 34 4 = wt_gf z0 108 39 := tx.1.trans (g0.1 108 39 (by decide)).symm
  have eN : wt_gf s 39 8 = wt_gf z0 108 40 := sc.2.1.1.trans (g0.1 108 40 (by decide)).symm
  have eF : wt_gf s 4 7 = wt_gf z0 108 25 := lc.2.2.2.2.2.trans (g0.1 108 25 (by decide)).symm
  have eH : wt_gf s 39 9 = wt_gf z0 108 26 := sc.1.1.trans (g0.1 108 26 (by decide)).symm
  have eM : ∀ l, l < 26 → wt_ga s 5 l = wt_ga z0 111 l := fun l hl => (lc.1 l hl).1.trans (g0.2 111 (fun h => h) l).symm
  have eP : ∀ g, g < 4 → wt_ga s 43 g = wt_ga z0 275 g := fun g hg => (sc.2.2.2 g hg).1.trans (g0.2 275 (fun h => h) g).symm
  refine wt_HH_r (wh_in n) (fun y1 h1 => ?_)
  obtain ⟨a1, b1⟩ := h1
  rw [a1]
  unfold wp_md_told_B21
  rcases b1 with ⟨c1, c2⟩ | ⟨c1, c2, c3⟩
  · have no : ∀ k : Int32, 0 ≤ k.toInt → k.toInt ≤ 7 → ¬ x1 = k := fun k h0 h7 h => by rw [h] at c2; omega
    rw [if_pos (show y1.1 = 0 from c1), if_neg (no 0 (by decide) (by decide)), if_neg (no 1 (by decide) (by decide)), if_neg (no 2 (by decide) (by decide)), if_neg (no 3 (by decide) (by decide)), if_neg (no 4 (by decide) (by decide)), if_neg (no 5 (by decide) (by decide)), if_neg (no 6 (by decide) (by decide)), if_neg (no 7 (by decide) (by decide))]
    refine wt_HH_r (wh_bad1 n t0 (by decide)) (fun y hy => ?_)
    subst hy
    dsimp only
    rw [if_neg (show ¬ ((1 : Int32) = 0) by decide)]
    exact wt_HH_some (Or.inl ⟨rfl, wt_v_sf rfl⟩)
  · rw [if_neg (show ¬ y1.1 = 0 by rw [c1]; decide)]
    refine wt_HH_r (wh_bad0 n t0) (fun y hy => ?_)
    subst hy
    dsimp only
    rw [if_pos (show (0 : Int32) = 0 from rfl)]
    refine wt_HH_il (fun c => ?_) (fun c => ?_)
    · rw [if_pos c]
      exact wt_HH_b (wr_sum n hn eM) (fun a b h => wt_HH_some (Or.inr ⟨rfl, by show wt_gf b.2 108 0 = 0; rw [h.2.2]; exact t0, h.1⟩))
    rw [if_neg c]
    refine wt_HH_il (fun d => ?_) (fun d => ?_)
    · rw [if_pos d]
      exact wt_HH_some (Or.inr ⟨rfl, t0, eW⟩)
    rw [if_neg d]
    refine wt_HH_il (fun d2 => ?_) (fun d2 => ?_)
    · rw [if_pos d2]
      exact wt_HH_some (Or.inr ⟨rfl, t0, eT⟩)
    rw [if_neg d2]
    refine wt_HH_il (fun d3 => ?_) (fun d3 => ?_)
    · rw [if_pos d3]
      exact wt_HH_b (wr_standing n hn eP) (fun a b h => wt_HH_some (Or.inr ⟨rfl, by show wt_gf b.2 108 0 = 0; rw [h.2.2]; exact t0, h.1⟩))
    rw [if_neg d3]
    refine wt_HH_il (fun d4 => ?_) (fun d4 => ?_)
    · rw [if_pos d4]
      exact wt_HH_some (Or.inr ⟨rfl, t0, eN⟩)
    rw [if_neg d4]
    refine wt_HH_il (fun d5 => ?_) (fun d5 => ?_)
    · rw [if_pos d5]
      exact wt_HH_some (Or.inr ⟨rfl, t0, eF⟩)
    rw [if_neg d5]
    refine wt_HH_il (fun d6 => ?_) (fun d6 => ?_)
    · rw [if_pos d6]
      exact wt_HH_some (Or.inr ⟨rfl, t0, eH⟩)
    rw [if_neg d6]
    refine wt_HH_il (fun d7 => ?_) (fun d7 => ?_)
    · exact wt_HH_some (Or.inr ⟨rfl, t0, eG⟩)
    · have n0 : ∀ k : Int32, ¬ x1 = k → x1.toInt ≠ k.toInt := fun k h e => h (wt_eqI e)
      have m0 := n0 0 c
      have m1 := n0 1 d
      have m2 := n0 2 d2
      have m3 := n0 3 d3
      have m4 := n0 4 d4
      have m5 := n0 5 d5
      have m6 := n0 6 d6
      have m7 := n0 7 d7
      have k1 : (1 : Int32).toInt = 1 := by decide
      have k2 : (2 : Int32).toInt = 2 := by decide
      have k3 : (3 : Int32).toInt = 3 := by decide
      have k4 : (4 : Int32).toInt = 4 := by decide
      have k5 : (5 : Int32).toInt = 5 := by decide
      have k6 : (6 : Int32).toInt = 6 := by decide
      omega
/-- a letter or none -/
theorem wh_isLetter (n : Nat) {x : Int32} {z : wt_St} : wt_H (wp_md_isLetter n x z) (fun q => q.2 = z ∧ ((q.1 = 1 ∧ 0 ≤ x.toInt ∧ x.toInt < 26) ∨ (q.1 = 0 ∧ (x.toInt < 0 ∨ 26 ≤ x.toInt)))) := by
  have k0 : (0 : Int32).toInt = 0 := by decide
  have k25 : (25 : Int32).toInt = 25 := by decide
  unfold wp_md_isLetter
  refine wt_H_bh (wh_in n) (fun q hq => wt_H_some ⟨hq.1, ?_⟩)
  rcases hq.2 with ⟨a, b⟩ | ⟨a, b, c⟩
  · exact Or.inr ⟨a, by omega⟩
  · exact Or.inl ⟨a, by omega, by omega⟩
theorem wt_HH_rr {α β : Type} {p : Option α} {p' : Option β} {P' : β → Prop} {Q : α → β → Prop} (h : wt_H p' P') (k : ∀ b, P' b → wt_H p (fun a => Q a b)) : wt_HH p p' Q := fun a b e e' => k b (h b e') a e
def wu_fo (h : Nat → Int32 → Int32) : Nat → Int32
  | 0 => 0
  | m + 1 => h m (wu_fo h m)
theorem wu_fo_congr {h g : Nat → Int32 → Int32} : ∀ (m : Nat), (∀ i, i < m → ∀ a, h i a = g i a) → wu_fo h m = wu_fo g m := by
  intro m
  induction m with
  | zero => intro _; rfl
  | succ m ih =>
    intro e
    show h m (wu_fo h m) = g m (wu_fo g m)
    rw [ih (fun i hi => e i (by omega)), e m (by omega)]
def wu_f1 (f : Nat → Int32) (i : Nat) (a : Int32) : Int32 := a + (if f i = (-1 : Int32) then (1 : Int32) else (0 : Int32))
def wu_f2 (f : Nat → Int32) (i : Nat) (a : Int32) : Int32 := a + f i
def wu_f3 (f : Nat → Int32) (i : Nat) (a : Int32) : Int32 := if a < f i then f i else a
def wu_f4 (f : Nat → Int32) (i : Nat) (a : Int32) : Int32 := a + (if f i = 0 then (1 : Int32) else (0 : Int32))
theorem wu_f2_e {f g : Nat → Int32} {i : Nat} (h : f i = g i) (a : Int32) : wu_f2 f i a = wu_f2 g i a := by
  unfold wu_f2
  rw [h]
theorem wu_f3_e {f g : Nat → Int32} {i : Nat} (h : f i = g i) (a : Int32) : wu_f3 f i a = wu_f3 g i a := by
  unfold wu_f3
  rw [h]
theorem wu_f4_e {f g : Nat → Int32} {i : Nat} (h : f i = g i) (a : Int32) : wu_f4 f i a = wu_f4 g i a := by
  unfold wu_f4
  rw [h]
theorem wu_f1_go {z : wt_St} {l : Nat} (r : wt_RI z) : ∀ (m : Nat), m ≤ 13 → (wu_fo (wu_f1 (fun i => wt_ga z 124 (13 * l + i))) m).toInt = wt_sum (fun j => wt_gf1 z 0 (13 * l + j)) m ∧ 0 ≤ wt_sum (fun j => wt_gf1 z 0 (13 * l + j)) m ∧ wt_sum (fun j => wt_gf1 z 0 (13 * l + j)) m ≤ m := by
  intro m
  induction m with
  | zero => intro _; exact ⟨(by decide : (0 : Int32).toInt = 0), Int.le_refl _, Int.le_refl _⟩
  | succ m ih =>
    intro hm
    have k0 : (0 : Int32).toInt = 0 := by decide
    have k1 : (1 : Int32).toInt = 1 := by decide
    obtain ⟨e, b1, b2⟩ := ih (by omega)
    have hz : 0 ≤ (wt_ga z 121 (13 * l + m)).toInt ∧ (wt_ga z 121 (13 * l + m)).toInt ≤ 400 := wt_Ra3 r 121 (show 120 ≤ 121 by omega) (show 121 < 122 by omega) (13 * l + m)
    show (wu_fo (wu_f1 (fun i => wt_ga z 124 (13 * l + i))) m + (if wt_ga z 124 (13 * l + m) = (-1 : Int32) then (1 : Int32) else (0 : Int32))).toInt = wt_sum (fun j => wt_gf1 z 0 (13 * l + j)) m + wt_gf1 z 0 (13 * l + m) ∧ 0 ≤ wt_sum (fun j => wt_gf1 z 0 (13 * l + j)) m + wt_gf1 z 0 (13 * l + m) ∧ wt_sum (fun j => wt_gf1 z 0 (13 * l + j)) m + wt_gf1 z 0 (13 * l + m) ≤ ((m + 1 : Nat) : Int)
    by_cases c : wt_ga z 124 (13 * l + m) = (-1 : Int32)
    · have v : wt_gf1 z 0 (13 * l + m) = 1 := by
        unfold wt_gf1
        rw [if_pos ⟨(wt_ceq c).trans wt_lm1, hz.1⟩]
      rw [if_pos c, v]
      have ea := wt_addE (x := wu_fo (wu_f1 (fun i => wt_ga z 124 (13 * l + i))) m) (y := (1 : Int32)) (by omega) (by omega)
      omega
    · have v : wt_gf1 z 0 (13 * l + m) = 0 := by
        unfold wt_gf1
        rw [if_neg (fun h => c (wt_eqI (h.1.trans wt_lm1.symm)))]
      rw [if_neg c, v]
      have ea := wt_addE (x := wu_fo (wu_f1 (fun i => wt_ga z 124 (13 * l + i))) m) (y := (0 : Int32)) (by omega) (by omega)
      omega
theorem wh_leftOfAll (n : Nat) (hn : 4294967297 < n) {l m : Nat} {x : Int32} {s : wt_St} (hx : x.toInt = (l : Int)) (hl : l < 26) (hm : (wt_ga s 5 l).toInt = (m : Int)) (h12 : m ≤ 12) : wt_H (wp_sk_leftOfAll n x s) (fun q => q = (wu_fo (wu_f2 (fun i => wt_ga s 40 (12 * l + i))) m, s)) := by
  have k0 : (0 : Int32).toInt = 0 := by decide
  unfold wp_sk_leftOfAll
  refine wt_H_it (fun t : Int32 × Int32 × wt_St => t.2.2 = s ∧ (0 ≤ t.2.1.toInt ∧ t.2.1.toInt ≤ (m : Int)) ∧ t.1 = wu_fo (wu_f2 (fun i => wt_ga s 40 (12 * l + i))) (Int32.toNatClampNeg t.2.1)) (fun K t I hK => ?_) n _ ⟨rfl, ⟨by show 0 ≤ ((0 : Int32)).toInt; omega, by show ((0 : Int32)).toInt ≤ _; omega⟩, by show (0 : Int32) = wu_fo _ (Int32.toNatClampNeg (0 : Int32)); rw [wt_tn0]; rfl⟩
  obtain ⟨i0, ⟨i1, i2⟩, i3⟩ := I
  have et := wt_tnI i1
  unfold wp_sk_leftOfAll_B4
  rw [i0]
  refine wt_H_bh (wh_pieces n hn hx hl) (fun q1 h1 => ?_)
  subst h1
  dsimp only
  refine wt_H_if (fun c => ?_) (fun c => ?_)
  · have c' := wt_cle c
    refine wt_H_some ?_
    show (t.1, s) = _
    rw [i3, show Int32.toNatClampNeg t.2.1 = m by omega]
  · have c' := wt_ncle c
    have ei := wt_i1 (c := t.2.1) (by omega)
    have ep := wt_piece hx hl i1 (by omega)
    have en : Int32.toNatClampNeg (t.2.1 + (1 : Int32)) = Int32.toNatClampNeg t.2.1 + 1 := by have := wt_tnI (x := t.2.1 + (1 : Int32)) (by omega); omega
    refine wt_H_bh (wh_look n hn (k := 12 * l + Int32.toNatClampNeg t.2.1) ep (by rw [show wt_ln 40 = 312 from by decide]; omega)) (fun q3 h3 => ?_)
    subst h3
    dsimp only
    refine hK _ ⟨rfl, ⟨by show 0 ≤ (t.2.1 + (1 : Int32)).toInt; omega, by show (t.2.1 + (1 : Int32)).toInt ≤ _; omega⟩, ?_⟩
    show t.1 + wt_ga s 40 (12 * l + Int32.toNatClampNeg t.2.1) = wu_fo _ (Int32.toNatClampNeg (t.2.1 + (1 : Int32)))
    rw [en, i3]
    rfl
theorem wh_mostLeft (n : Nat) (hn : 4294967297 < n) {l m : Nat} {x : Int32} {s : wt_St} (hx : x.toInt = (l : Int)) (hl : l < 26) (hm : (wt_ga s 5 l).toInt = (m : Int)) (h12 : m ≤ 12) : wt_H (wp_sk_mostLeft n x s) (fun q => q = (wu_fo (wu_f3 (fun i => wt_ga s 40 (12 * l + i))) m, s)) := by
  have k0 : (0 : Int32).toInt = 0 := by decide
  unfold wp_sk_mostLeft
  refine wt_H_it (fun t : Int32 × Int32 × wt_St => t.2.2 = s ∧ (0 ≤ t.2.1.toInt ∧ t.2.1.toInt ≤ (m : Int)) ∧ t.1 = wu_fo (wu_f3 (fun i => wt_ga s 40 (12 * l + i))) (Int32.toNatClampNeg t.2.1)) (fun K t I hK => ?_) n _ ⟨rfl, ⟨by show 0 ≤ ((0 : Int32)).toInt; omega, by show ((0 : Int32)).toInt ≤ _; omega⟩, by show (0 : Int32) = wu_fo _ (Int32.toNatClampNeg (0 : Int32)); rw [wt_tn0]; rfl⟩
  obtain ⟨i0, ⟨i1, i2⟩, i3⟩ := I
  have et := wt_tnI i1
  unfold wp_sk_mostLeft_B4
  rw [i0]
  refine wt_H_bh (wh_pieces n hn hx hl) (fun q1 h1 => ?_)
  subst h1
  dsimp only
  refine wt_H_if (fun c => ?_) (fun c => ?_)
  · have c' := wt_cle c
    refine wt_H_some ?_
    show (t.1, s) = _
    rw [i3, show Int32.toNatClampNeg t.2.1 = m by omega]
  · have c' := wt_ncle c
    have ei := wt_i1 (c := t.2.1) (by omega)
    have ep := wt_piece hx hl i1 (by omega)
    have en : Int32.toNatClampNeg (t.2.1 + (1 : Int32)) = Int32.toNatClampNeg t.2.1 + 1 := by have := wt_tnI (x := t.2.1 + (1 : Int32)) (by omega); omega
    refine wt_H_bh (wh_look n hn (k := 12 * l + Int32.toNatClampNeg t.2.1) ep (by rw [show wt_ln 40 = 312 from by decide]; omega)) (fun q3 h3 => ?_)
    subst h3
    refine hK _ ⟨rfl, ⟨by show 0 ≤ (t.2.1 + (1 : Int32)).toInt; omega, by show (t.2.1 + (1 : Int32)).toInt ≤ _; omega⟩, ?_⟩
    show (if t.1 < wt_ga s 40 (12 * l + Int32.toNatClampNeg t.2.1) then wt_ga s 40 (12 * l + Int32.toNatClampNeg t.2.1) else t.1) = wu_fo _ (Int32.toNatClampNeg (t.2.1 + (1 : Int32)))
    rw [en, i3]
    rfl
theorem wh_wornOut (n : Nat) (hn : 4294967297 < n) {l m : Nat} {x : Int32} {s : wt_St} (hx : x.toInt = (l : Int)) (hl : l < 26) (hm : (wt_ga s 5 l).toInt = (m : Int)) (h12 : m ≤ 12) : wt_H (wp_sk_wornOut n x s) (fun q => q = (wu_fo (wu_f4 (fun i => wt_ga s 40 (12 * l + i))) m, s)) := by
  have k0 : (0 : Int32).toInt = 0 := by decide
  unfold wp_sk_wornOut
  refine wt_H_it (fun t : Int32 × Int32 × wt_St => t.2.2 = s ∧ (0 ≤ t.2.1.toInt ∧ t.2.1.toInt ≤ (m : Int)) ∧ t.1 = wu_fo (wu_f4 (fun i => wt_ga s 40 (12 * l + i))) (Int32.toNatClampNeg t.2.1)) (fun K t I hK => ?_) n _ ⟨rfl, ⟨by show 0 ≤ ((0 : Int32)).toInt; omega, by show ((0 : Int32)).toInt ≤ _; omega⟩, by show (0 : Int32) = wu_fo _ (Int32.toNatClampNeg (0 : Int32)); rw [wt_tn0]; rfl⟩
  obtain ⟨i0, ⟨i1, i2⟩, i3⟩ := I
  have et := wt_tnI i1
  unfold wp_sk_wornOut_B4
  rw [i0]
  refine wt_H_bh (wh_pieces n hn hx hl) (fun q1 h1 => ?_)
  subst h1
  dsimp only
  refine wt_H_if (fun c => ?_) (fun c => ?_)
  · have c' := wt_cle c
    refine wt_H_some ?_
    show (t.1, s) = _
    rw [i3, show Int32.toNatClampNeg t.2.1 = m by omega]
  · have c' := wt_ncle c
    have ei := wt_i1 (c := t.2.1) (by omega)
    have ep := wt_piece hx hl i1 (by omega)
    have en : Int32.toNatClampNeg (t.2.1 + (1 : Int32)) = Int32.toNatClampNeg t.2.1 + 1 := by have := wt_tnI (x := t.2.1 + (1 : Int32)) (by omega); omega
    refine wt_H_bh (wh_look n hn (k := 12 * l + Int32.toNatClampNeg t.2.1) ep (by rw [show wt_ln 40 = 312 from by decide]; omega)) (fun q3 h3 => ?_)
    subst h3
    dsimp only
    have N : ∀ w : Int32, w = (if wt_ga s 40 (12 * l + Int32.toNatClampNeg t.2.1) = 0 then (1 : Int32) else (0 : Int32)) → wt_H (wp_sk_wornOut_B38 n x t.2.1 K t.1 w s) (fun q => q = (wu_fo (wu_f4 (fun i => wt_ga s 40 (12 * l + i))) m, s)) := fun w hw => by
      unfold wp_sk_wornOut_B38
      refine hK _ ⟨rfl, ⟨by show 0 ≤ (t.2.1 + (1 : Int32)).toInt; omega, by show (t.2.1 + (1 : Int32)).toInt ≤ _; omega⟩, ?_⟩
      show t.1 + w = wu_fo _ (Int32.toNatClampNeg (t.2.1 + (1 : Int32)))
      rw [en, i3, hw]
      rfl
    exact wt_H_if (fun d => N 1 (by rw [if_pos d])) (fun d => N 0 (by rw [if_neg d]))
/-- what the reference tells of a letter -/
def wu_let (z : wt_St) (l m : Nat) (x : Int32) : Int32 := if x = (0 : Int32) then wt_ga z 111 l else if x = (1 : Int32) then wu_fo (wu_f1 (fun i => wt_ga z 124 (13 * l + i))) m else if x = (2 : Int32) then wu_fo (wu_f2 (fun i => wt_ga z 121 (13 * l + i))) m else if x = (3 : Int32) then wu_fo (wu_f3 (fun i => wt_ga z 121 (13 * l + i))) m else if x = (4 : Int32) then wu_fo (wu_f4 (fun i => wt_ga z 121 (13 * l + i))) m else if x = (5 : Int32) then wt_ga z 115 l else if x = (6 : Int32) then wt_ga z 117 l else wt_ga z 113 l
theorem wh_letterLoop (n : Nat) {l m : Nat} {x1 x2 : Int32} {z : wt_St} (hx : x1.toInt = (l : Int)) (hl : l < 26) (hm : (wt_ga z 111 l).toInt = (m : Int)) (h12 : m ≤ 12) : wt_H (wt_it (wp_md_letter_B51 n x1 x2) n ((0 : Int32), (0 : Int32), (0 : Int32), (0 : Int32), (0 : Int32), z)) (fun y => y = (wu_let z l m x2, z)) := by
  have k0 : (0 : Int32).toInt = 0 := by decide
  have e1 := wt_tnN hx
  refine wt_H_it (fun t : Int32 × Int32 × Int32 × Int32 × Int32 × wt_St => t.2.2.2.2.2 = z ∧ (0 ≤ t.2.2.2.2.1.toInt ∧ t.2.2.2.2.1.toInt ≤ (m : Int)) ∧ t.1 = wu_fo (wu_f1 (fun i => wt_ga z 124 (13 * l + i))) (Int32.toNatClampNeg t.2.2.2.2.1) ∧ t.2.1 = wu_fo (wu_f2 (fun i => wt_ga z 121 (13 * l + i))) (Int32.toNatClampNeg t.2.2.2.2.1) ∧ t.2.2.1 = wu_fo (wu_f3 (fun i => wt_ga z 121 (13 * l + i))) (Int32.toNatClampNeg t.2.2.2.2.1) ∧ t.2.2.2.1 = wu_fo (wu_f4 (fun i => wt_ga z 121 (13 * l + i))) (Int32.toNatClampNeg t.2.2.2.2.1)) (fun K t I hK => ?_) n _ ⟨rfl, ⟨by show 0 ≤ ((0 : Int32)).toInt; omega, by show ((0 : Int32)).toInt ≤ _; omega⟩, by show (0 : Int32) = wu_fo _ (Int32.toNatClampNeg (0 : Int32)); rw [wt_tn0]; rfl, by show (0 : Int32) = wu_fo _ (Int32.toNatClampNeg (0 : Int32)); rw [wt_tn0]; rfl, by show (0 : Int32) = wu_fo _ (Int32.toNatClampNeg (0 : Int32)); rw [wt_tn0]; rfl, by show (0 : Int32) = wu_fo _ (Int32.toNatClampNeg (0 : Int32)); rw [wt_tn0]; rfl⟩
  obtain ⟨i0, ⟨i1, i2⟩, i3, i4, i5, i6⟩ := I
  have et := wt_tnI i1
  unfold wp_md_letter_B51
  rw [i0, e1]
  refine wt_H_gd (fun _ => ?_)
  refine wt_H_if (fun c => ?_) (fun c => ?_)
  · have c' := wt_cle c
    have em : Int32.toNatClampNeg t.2.2.2.2.1 = m := by omega
    rw [em] at i3 i4 i5 i6
    rw [i3, i4, i5, i6]
    refine wt_H_if (fun d => wt_H_gd (fun _ => wt_H_some ?_)) (fun d => ?_)
    · unfold wu_let
      rw [if_pos d]
    refine wt_H_if (fun d1 => wt_H_some ?_) (fun d1 => ?_)
    · unfold wu_let
      rw [if_neg d, if_pos d1]
    refine wt_H_if (fun d2 => wt_H_some ?_) (fun d2 => ?_)
    · unfold wu_let
      rw [if_neg d, if_neg d1, if_pos d2]
    refine wt_H_if (fun d3 => wt_H_some ?_) (fun d3 => ?_)
    · unfold wu_let
      rw [if_neg d, if_neg d1, if_neg d2, if_pos d3]
    refine wt_H_if (fun d4 => wt_H_some ?_) (fun d4 => ?_)
    · unfold wu_let
      rw [if_neg d, if_neg d1, if_neg d2, if_neg d3, if_pos d4]
    refine wt_H_if (fun d5 => wt_H_gd (fun _ => wt_H_some ?_)) (fun d5 => ?_)
    · unfold wu_let
      rw [if_neg d, if_neg d1, if_neg d2, if_neg d3, if_neg d4, if_pos d5]
    refine wt_H_if (fun d6 => wt_H_gd (fun _ => wt_H_some ?_)) (fun d6 => wt_H_gd (fun _ => wt_H_some ?_))
    · unfold wu_let
      rw [if_neg d, if_neg d1, if_neg d2, if_neg d3, if_neg d4, if_neg d5, if_pos d6]
    · unfold wu_let
      rw [if_neg d, if_neg d1, if_neg d2, if_neg d3, if_neg d4, if_neg d5, if_neg d6]
  · have c' := wt_ncle c
    have ei := wt_i1 (c := t.2.2.2.2.1) (by omega)
    have en : Int32.toNatClampNeg (t.2.2.2.2.1 + (1 : Int32)) = Int32.toNatClampNeg t.2.2.2.2.1 + 1 := by have := wt_tnI (x := t.2.2.2.2.1 + (1 : Int32)) (by omega); omega
    refine wt_H_bh (wh_cell n (l := l) (i := Int32.toNatClampNeg t.2.2.2.2.1) hx (by omega) hl (by omega)) (fun q18 h18 => ?_)
    obtain ⟨a18, b18⟩ := h18
    rw [a18]
    refine wt_H_gd (fun _ => ?_)
    refine wt_H_bh (wh_cell n (l := l) (i := Int32.toNatClampNeg t.2.2.2.2.1) hx (by omega) hl (by omega)) (fun q20 h20 => ?_)
    obtain ⟨a20, b20⟩ := h20
    rw [a20]
    refine wt_H_gd (fun _ => ?_)
    rw [wt_tnN b18, wt_tnN b20]
    obtain ⟨p, hp⟩ : ∃ p : Int32, p = wt_ga z 121 (13 * l + Int32.toNatClampNeg t.2.2.2.2.1) := ⟨_, rfl⟩
    obtain ⟨o, ho⟩ : ∃ o : Int32, o = wt_ga z 124 (13 * l + Int32.toNatClampNeg t.2.2.2.2.1) := ⟨_, rfl⟩
    rw [← hp, ← ho]
    have N : ∀ w1 w3 w4 : Int32, w1 = (if o = (-1 : Int32) then (1 : Int32) else (0 : Int32)) → w3 = (if t.2.2.1 < p then p else t.2.2.1) → w4 = (if p = 0 then (1 : Int32) else (0 : Int32)) → wt_H (wp_md_letter_B133 n x1 x2 (t.1 + w1) (t.2.1 + p) w3 t.2.2.2.2.1 K t.2.2.2.1 w4 z) (fun y => y = (wu_let z l m x2, z)) := fun w1 w3 w4 h1 h3 h4 => by
      unfold wp_md_letter_B133
      refine hK _ ⟨rfl, ⟨by show 0 ≤ (t.2.2.2.2.1 + (1 : Int32)).toInt; omega, by show (t.2.2.2.2.1 + (1 : Int32)).toInt ≤ _; omega⟩, ?_, ?_, ?_, ?_⟩
      · show t.1 + w1 = wu_fo _ (Int32.toNatClampNeg (t.2.2.2.2.1 + (1 : Int32)))
        rw [en, i3, h1, ho]
        rfl
      · show t.2.1 + p = wu_fo _ (Int32.toNatClampNeg (t.2.2.2.2.1 + (1 : Int32)))
        rw [en, i4, hp]
        rfl
      · show w3 = wu_fo _ (Int32.toNatClampNeg (t.2.2.2.2.1 + (1 : Int32)))
        rw [en, h3, i5, hp]
        rfl
      · show t.2.2.2.1 + w4 = wu_fo _ (Int32.toNatClampNeg (t.2.2.2.2.1 + (1 : Int32)))
        rw [en, i6, h4, hp]
        rfl
    have N2 : ∀ w1 w3 : Int32, w1 = (if o = (-1 : Int32) then (1 : Int32) else (0 : Int32)) → w3 = (if t.2.2.1 < p then p else t.2.2.1) → wt_H (wp_md_letter_B119 n x1 x2 (t.1 + w1) (t.2.1 + p) t.2.2.2.1 t.2.2.2.2.1 p K w3 z) (fun y => y = (wu_let z l m x2, z)) := fun w1 w3 h1 h3 => by
      unfold wp_md_letter_B119
      exact wt_H_if (fun d => N w1 w3 1 h1 h3 (by rw [if_pos d])) (fun d => N w1 w3 0 h1 h3 (by rw [if_neg d]))
    have N3 : ∀ w1 : Int32, w1 = (if o = (-1 : Int32) then (1 : Int32) else (0 : Int32)) → wt_H (wp_md_letter_B96 n x1 x2 t.2.1 t.2.2.1 t.2.2.2.1 t.2.2.2.2.1 p K t.1 w1 z) (fun y => y = (wu_let z l m x2, z)) := fun w1 h1 => by
      unfold wp_md_letter_B96
      exact wt_H_if (fun d => N2 w1 t.2.2.1 h1 (by have := wt_cle d; rw [if_neg (show ¬ t.2.2.1 < p from fun e => by have := wt_clt e; omega)])) (fun d => N2 w1 p h1 (by have := wt_ncle d; rw [if_pos (show t.2.2.1 < p from Int32.lt_iff_toInt_lt.mpr (by omega))]))
    exact wt_H_if (fun d => N3 1 (by rw [if_pos d])) (fun d => N3 0 (by rw [if_neg d]))
theorem wr_letterQ (n : Nat) (hn : 4294967297 < n) {x1 x2 : Int32} {s z : wt_St} (v : wt_IV z) (rl : wu_RL s z) : wt_HH (wp_ap_letter n x1 x2 s) (wp_md_letter n x1 x2 z) (fun q y => (q.1 = 1 ∧ wt_gf y.2 108 0 = 1) ∨ (q.1 = 0 ∧ wt_gf y.2 108 0 = 0 ∧ q.2.1 = y.1)) := by
  have k0 : (0 : Int32).toInt = 0 := by decide
  have k7 : (7 : Int32).toInt = 7 := by decide
  have k26 : (26 : Int32).toInt = 26 := by decide
  obtain ⟨-, -, -, lc, -, sc, -⟩ := rl
  have sk := wu_SK_of lc sc
  unfold wp_ap_letter wp_md_letter
  obtain ⟨z0, ε0⟩ : ∃ o : wt_St, o = wt_sf z 108 0 (0 : Int32) := ⟨_, rfl⟩
  rw [← ε0]
  have g0 := wt_fr_sf ε0
  have t0 : wt_gf z0 108 0 = 0 := wt_v_sf ε0
  have r0 : wt_RI z0 := wt_RI_fno v.1 ε0 (Or.inr (by decide +kernel))
  have sk0 : wu_SK 40 s z0 := wu_SK_fr sk (wt_fr.rf (F := fun _ _ => False) (A := fun _ => False)) g0 ⟨fun h => h, fun h => h, fun h => h⟩ ⟨fun h => h, fun h => h, fun h => h⟩
  -- out of its bounds, on the reference's side
  have BAD : wt_H (wp_md_letter_B23 n x1 x2 z0) (fun y => wt_gf y.2 108 0 = 1) := by
    unfold wp_md_letter_B23 wp_md_letter_B28
    refine wt_H_bh (wh_bad1 n t0 (by decide)) (fun y hy => ?_)
    subst hy
    dsimp only
    rw [if_neg (show ¬ ((1 : Int32) = 0) by decide)]
    exact wt_H_some (wt_v_sf rfl)
  have CB : wt_H (wp_ap_letter_B10 n x1 x2 s) (fun q => q.1 = 1) := by
    unfold wp_ap_letter_B10 wp_ap_letter_B15
    refine wt_H_bh (wh_refuse1 n) (fun q hq => ?_)
    subst hq
    dsimp only
    rw [if_neg (show ¬ ((1 : Nat) = 0) by decide)]
    exact wt_H_some rfl
  refine wt_HH_r (wh_isLetter n) (fun y1 h1 => ?_)
  obtain ⟨a1, b1⟩ := h1
  rw [a1]
  rcases b1 with ⟨c1, c2, c3⟩ | ⟨c1, c2⟩
  · rw [if_neg (show ¬ y1.1 = 0 by rw [c1]; decide)]
    have hx := (wt_tnI c2).symm
    obtain ⟨l, hl⟩ : ∃ l : Nat, l = Int32.toNatClampNeg x1 := ⟨_, rfl⟩
    rw [← hl] at hx
    have hl26 : l < 26 := by omega
    obtain ⟨m1, m2, m3⟩ := sk0 l hl26
    obtain ⟨m, hm⟩ : ∃ m : Nat, (m : Int) = (wt_ga s 5 l).toInt := ⟨Int32.toNatClampNeg (wt_ga s 5 l), wt_tnI m2.1⟩
    have hm' : (wt_ga z0 111 l).toInt = (m : Int) := by rw [← m1]; exact hm.symm
    have e40 : ∀ i, i < m → wt_ga s 40 (12 * l + i) = wt_ga z0 121 (13 * l + i) := fun i hi => (m3 i (by omega)).1
    refine wt_HH_il (fun c => absurd (wt_clt c) (by omega)) (fun _ => wt_HH_il (fun _ => ?_) (fun c => absurd (wt_ncl c) (by omega)))
    refine wt_HH_r (wh_in n) (fun y2 h2 => ?_)
    obtain ⟨a2, b2⟩ := h2
    rw [a2]
    unfold wp_ap_letter_B15
    refine wt_HH_l (wh_refuse0 n) (fun q hq => ?_)
    subst hq
    dsimp only
    rw [if_pos (show (0 : Nat) = 0 from rfl)]
    rcases b2 with ⟨d1, d2⟩ | ⟨d1, d2, d3⟩
    · have no : ∀ k : Int32, 0 ≤ k.toInt → k.toInt ≤ 7 → ¬ x2 = k := fun k h0 h7 h => by rw [h] at d2; omega
      rw [if_pos (show y2.1 = 0 from d1), if_neg (no 0 (by decide) (by decide)), if_neg (no 1 (by decide) (by decide)), if_neg (no 2 (by decide) (by decide)), if_neg (no 3 (by decide) (by decide)), if_neg (no 4 (by decide) (by decide)), if_neg (no 5 (by decide) (by decide)), if_neg (no 6 (by decide) (by decide)), if_neg (no 7 (by decide) (by decide))]
      exact wt_HH_of (wt_H_some (Q := fun q : Nat × Int32 × wt_St => q.1 = 1) rfl) BAD (fun a b h h' => Or.inl ⟨h, h'⟩)
    · rw [if_neg (show ¬ y2.1 = 0 by rw [d1]; decide)]
      have MD : wt_H (wp_md_letter_B28 n x1 x2 (0 : Int32) z0) (fun y => y = (wu_let z0 l m x2, z0)) := by
        unfold wp_md_letter_B28
        refine wt_H_bh (wh_bad0 n t0) (fun y hy => ?_)
        subst hy
        dsimp only
        rw [if_pos (show (0 : Int32) = 0 from rfl)]
        exact wh_letterLoop n hx hl26 hm' (by omega)
      refine wt_HH_rr MD (fun y hy => ?_)
      subst hy
      have E : ∀ w : Int32, w = wu_let z0 l m x2 → ((0 : Nat) = 1 ∧ wt_gf z0 108 0 = 1) ∨ ((0 : Nat) = 0 ∧ wt_gf z0 108 0 = 0 ∧ w = wu_let z0 l m x2) := fun w hw => Or.inr ⟨rfl, t0, hw⟩
      refine wt_H_if (fun c => wt_H_bh (wh_pieces n hn hx hl26) (fun q hq => by subst hq; exact wt_H_some (E _ (by unfold wu_let; rw [if_pos c]; exact m1)))) (fun c => ?_)
      refine wt_H_if (fun c1 => ?_) (fun c1 => ?_)
      · unfold wp_sk_inCase
        simp only [Option.bind_assoc]
        refine wt_H_bh (wh_ready n hn (a := 40) (x2 := (0 : Int32)) (by decide) hx hl26 m2.1 m2.2) (fun q hq => ?_)
        refine wt_H_some (E _ ?_)
        unfold wu_let
        rw [if_neg c, if_pos c1]
        refine wt_eqI ?_
        rw [hq.2, (wu_f1_go r0 m (by omega)).1, k0, wu_rd_go sk0 hl26]
        unfold wt_go
        rw [wt_tnN hm']
      refine wt_H_if (fun c2 => wt_H_bh (wh_leftOfAll n hn hx hl26 hm.symm (by omega)) (fun q hq => by subst hq; exact wt_H_some (E _ (by unfold wu_let; rw [if_neg c, if_neg c1, if_pos c2]; exact wu_fo_congr m (fun i hi a => wu_f2_e (e40 i hi) a)))) ) (fun c2 => ?_)
      refine wt_H_if (fun c3 => wt_H_bh (wh_mostLeft n hn hx hl26 hm.symm (by omega)) (fun q hq => by subst hq; exact wt_H_some (E _ (by unfold wu_let; rw [if_neg c, if_neg c1, if_neg c2, if_pos c3]; exact wu_fo_congr m (fun i hi a => wu_f3_e (e40 i hi) a)))) ) (fun c3 => ?_)
      refine wt_H_if (fun c4 => wt_H_bh (wh_wornOut n hn hx hl26 hm.symm (by omega)) (fun q hq => by subst hq; exact wt_H_some (E _ (by unfold wu_let; rw [if_neg c, if_neg c1, if_neg c2, if_neg c3, if_pos c4]; exact wu_fo_congr m (fun i hi a => wu_f4_e (e40 i hi) a)))) ) (fun c4 => ?_)
      refine wt_H_if (fun c5 => wt_H_bh (wh_look n hn hx (by rw [show wt_ln 9 = 26 from by decide]; exact hl26)) (fun q hq => by subst hq; exact wt_H_some (E _ (by unfold wu_let; rw [if_neg c, if_neg c1, if_neg c2, if_neg c3, if_neg c4, if_pos c5, g0.2 115 (fun h => h)]; exact lc.2.2.1 l hl26)))) (fun c5 => ?_)
      refine wt_H_if (fun c6 => wt_H_bh (wh_look n hn hx (by rw [show wt_ln 10 = 26 from by decide]; exact hl26)) (fun q hq => by subst hq; exact wt_H_some (E _ (by unfold wu_let; rw [if_neg c, if_neg c1, if_neg c2, if_neg c3, if_neg c4, if_neg c5, if_pos c6, g0.2 117 (fun h => h)]; exact lc.2.2.2.1 l hl26)))) (fun c6 => ?_)
      refine wt_H_if (fun c7 => wt_H_bh (wh_look n hn hx (by rw [show wt_ln 7 = 26 from by decide]; exact hl26)) (fun q hq => by subst hq; exact wt_H_some (E _ (by unfold wu_let; rw [if_neg c, if_neg c1, if_neg c2, if_neg c3, if_neg c4, if_neg c5, if_neg c6, g0.2 113 (fun h => h)]; exact (lc.2.1 l hl26).1)))) (fun c7 => ?_)
      have n0 : ∀ k : Int32, ¬ x2 = k → x2.toInt ≠ k.toInt := fun k h e => h (wt_eqI e)
      have m0 := n0 0 c
      have m1 := n0 1 c1
      have m2 := n0 2 c2
      have m3 := n0 3 c3
      have m4 := n0 4 c4
      have m5 := n0 5 c5
      have m6 := n0 6 c6
      have m7 := n0 7 c7
      have k1 : (1 : Int32).toInt = 1 := by decide
      have k2 : (2 : Int32).toInt = 2 := by decide
      have k3 : (3 : Int32).toInt = 3 := by decide
      have k4 : (4 : Int32).toInt = 4 := by decide
      have k5 : (5 : Int32).toInt = 5 := by decide
      have k6 : (6 : Int32).toInt = 6 := by decide
      omega
  · rw [if_pos (show y1.1 = 0 from c1)]
    have C : wt_H (if x1 < 0 then wp_ap_letter_B10 n x1 x2 s else if x1 < (26 : Int32) then wp_ap_letter_B15 n x1 x2 (0 : Int32) s else wp_ap_letter_B10 n x1 x2 s) (fun q => q.1 = 1) := wt_H_if (fun _ => CB) (fun c => wt_H_if (fun d => by have := wt_ncl c; have := wt_clt d; omega) (fun _ => CB))
    exact wt_HH_of C BAD (fun a b h h' => Or.inl ⟨h, h'⟩)
theorem wr_piece (n : Nat) (hn : 4294967297 < n) {x1 x2 x3 : Int32} {s z : wt_St} (v : wt_IV z) (rl : wu_RL s z) : wt_HH (wp_ap_piece n x1 x2 x3 s) (wp_md_piece n x1 x2 x3 z) (fun q y => (q.1 = 3 ∧ wt_gf y.2 108 0 = 1) ∨ (q.1 = 1 ∧ wt_gf y.2 108 0 = 2) ∨ (q.1 = 0 ∧ wt_gf y.2 108 0 = 0 ∧ q.2.1 = y.1)) := by
  have k0 : (0 : Int32).toInt = 0 := by decide
  have k1 : (1 : Int32).toInt = 1 := by decide
  have k26 : (26 : Int32).toInt = 26 := by decide
  obtain ⟨-, -, -, lc, -, sc, -⟩ := rl
  have sk := wu_SK_of lc sc
  unfold wp_ap_piece wp_md_piece
  obtain ⟨z0, ε0⟩ : ∃ o : wt_St, o = wt_sf z 108 0 (0 : Int32) := ⟨_, rfl⟩
  rw [← ε0]
  have g0 := wt_fr_sf ε0
  have t0 : wt_gf z0 108 0 = 0 := wt_v_sf ε0
  have sk0 : wu_SK 40 s z0 := wu_SK_fr sk (wt_fr.rf (F := fun _ _ => False) (A := fun _ => False)) g0 ⟨fun h => h, fun h => h, fun h => h⟩ ⟨fun h => h, fun h => h, fun h => h⟩
  have CB : wt_H (wp_ap_piece_B10 n x1 x2 x3 s) (fun q => q.1 = 1) := by
    unfold wp_ap_piece_B10 wp_ap_piece_B15
    refine wt_H_bh (wh_refuse1 n) (fun q hq => ?_)
    subst hq
    dsimp only
    rw [if_neg (show ¬ ((1 : Nat) = 0) by decide)]
    exact wt_H_some rfl
  refine wt_HH_r (wh_isLetter n) (fun y1 h1 => ?_)
  obtain ⟨a1, b1⟩ := h1
  rw [a1]
  rcases b1 with ⟨c1, c2, c3⟩ | ⟨c1, c2⟩
  · rw [if_neg (show ¬ y1.1 = 0 by rw [c1]; decide)]
    have hx := (wt_tnI c2).symm
    obtain ⟨l, hl⟩ : ∃ l : Nat, l = Int32.toNatClampNeg x1 := ⟨_, rfl⟩
    rw [← hl] at hx
    have hl26 : l < 26 := by omega
    obtain ⟨m1, m2, m3⟩ := sk0 l hl26
    refine wt_HH_il (fun c => absurd (wt_clt c) (by omega)) (fun _ => wt_HH_il (fun _ => ?_) (fun c => absurd (wt_ncl c) (by omega)))
    unfold wp_ap_piece_B15 wp_md_piece_B18
    refine wt_HH_l (wh_refuse0 n) (fun q hq => ?_)
    subst hq
    dsimp only
    rw [if_pos (show (0 : Nat) = 0 from rfl)]
    refine wt_HH_r (wh_bad0 n t0) (fun y hy => ?_)
    subst hy
    dsimp only
    rw [if_pos (show (0 : Int32) = 0 from rfl)]
    refine wt_HH_gr (fun _ => ?_)
    rw [← hl]
    have es := wt_subE (x := wt_ga z0 111 l) (y := (1 : Int32)) (by rw [← m1]; omega) (by rw [← m1]; omega)
    rw [← m1] at es
    rw [← m1]
    refine wt_HH_r (wh_in n) (fun y2 h2 => ?_)
    obtain ⟨a2, b2⟩ := h2
    rw [a2]
    rcases b2 with ⟨d1, d2⟩ | ⟨d1, d2, d3⟩
    · rw [if_pos (show y2.1 = 0 from d1)]
      have M : wt_H (wp_md_piece_B47 n x1 x2 x3 (1 : Int32) z0) (fun y => wt_gf y.2 108 0 = 1) := by
        unfold wp_md_piece_B47
        refine wt_H_bh (wh_bad1 n t0 (by decide)) (fun y hy => ?_)
        subst hy
        dsimp only
        rw [if_neg (show ¬ ((1 : Int32) = 0) by decide)]
        exact wt_H_some (wt_v_sf rfl)
      have C3 : wt_H (wp_ap_piece_B34 n s) (fun q => q.1 = 3) := by
        unfold wp_ap_piece_B34
        exact wt_H_some rfl
      refine wt_HH_rr M (fun y hy => ?_)
      refine wt_H_if (fun _ => C3.imp (fun q hq => Or.inl ⟨hq, hy⟩)) (fun c => ?_)
      refine wt_H_bh (wh_pieces n hn hx hl26) (fun q4 h4 => ?_)
      subst h4
      have c' := wt_ncl c
      exact wt_H_if (fun e => absurd (wt_clt e) (by dsimp only; omega)) (fun _ => C3.imp (fun q hq => Or.inl ⟨hq, hy⟩))
    · rw [if_neg (show ¬ y2.1 = 0 by rw [d1]; decide)]
      refine wt_HH_il (fun c => absurd (wt_clt c) (by omega)) (fun _ => ?_)
      refine wt_HH_l (wh_pieces n hn hx hl26) (fun q4 h4 => ?_)
      subst h4
      dsimp only
      refine wt_HH_il (fun _ => ?_) (fun c => absurd (wt_ncl c) (by omega))
      unfold wp_md_piece_B47
      refine wt_HH_r (wh_bad0 n t0) (fun y hy => ?_)
      subst hy
      dsimp only
      rw [if_pos (show (0 : Int32) = 0 from rfl)]
      refine wt_HH_r (wh_in n) (fun y3 h3 => ?_)
      obtain ⟨a3, b3⟩ := h3
      rw [a3]
      have B : wt_H (wp_ap_piece_B53 n x1 x2 x3 s) (fun q => q.1 = 1) := by
        unfold wp_ap_piece_B53 wp_ap_piece_B58
        refine wt_H_bh (wh_refuse1 n) (fun q hq => ?_)
        subst hq
        dsimp only
        rw [if_neg (show ¬ ((1 : Nat) = 0) by decide)]
        exact wt_H_some rfl
      rcases b3 with ⟨f1, f2⟩ | ⟨f1, f2, f3⟩
      · rw [if_pos (show y3.1 = 0 from f1)]
        have M : wt_H (wp_md_piece_B69 n x1 x2 x3 (1 : Int32) z0) (fun y => wt_gf y.2 108 0 = 2) := by
          unfold wp_md_piece_B69
          refine wt_H_bh (wh_bad1 n t0 (by decide)) (fun y hy => ?_)
          subst hy
          dsimp only
          rw [if_neg (show ¬ ((1 : Int32) = 0) by decide)]
          exact wt_H_some (wt_v_sf rfl)
        refine wt_HH_rr M (fun y hy => ?_)
        exact wt_H_if (fun _ => B.imp (fun q hq => Or.inr (Or.inl ⟨hq, hy⟩))) (fun c => wt_H_if (fun d => by have := wt_ncl c; have := wt_cle d; omega) (fun _ => B.imp (fun q hq => Or.inr (Or.inl ⟨hq, hy⟩))))
      · rw [if_neg (show ¬ y3.1 = 0 by rw [f1]; decide)]
        refine wt_HH_il (fun c => absurd (wt_clt c) (by omega)) (fun _ => wt_HH_il (fun _ => ?_) (fun c => absurd (wt_ncle c) (by omega)))
        unfold wp_ap_piece_B58 wp_md_piece_B69
        refine wt_HH_l (wh_refuse0 n) (fun q hq => ?_)
        subst hq
        dsimp only
        rw [if_pos (show (0 : Nat) = 0 from rfl)]
        refine wt_HH_r (wh_bad0 n t0) (fun y hy => ?_)
        subst hy
        dsimp only
        rw [if_pos (show (0 : Int32) = 0 from rfl)]
        have ep := wt_piece hx hl26 d2 (by omega)
        have e2 := wt_tnI d2
        obtain ⟨p1, p2⟩ := m3 (Int32.toNatClampNeg x2) (by omega)
        unfold wp_ap_piece_B82
        refine wt_HH_il (fun c => ?_) (fun c => ?_)
        · rw [if_pos c]
          refine wt_HH_l (wh_look n hn (k := 12 * l + Int32.toNatClampNeg x2) ep (by rw [show wt_ln 40 = 312 from by decide]; omega)) (fun q9 h9 => ?_)
          subst h9
          refine wt_HH_r (wh_cell n (l := l) (i := Int32.toNatClampNeg x2) hx (by omega) hl26 (by omega)) (fun y9 h9 => ?_)
          obtain ⟨a9, b9⟩ := h9
          rw [a9]
          refine wt_HH_gr (fun _ => wt_HH_some (Or.inr (Or.inr ⟨rfl, t0, ?_⟩)))
          show wt_ga s 40 (12 * l + Int32.toNatClampNeg x2) = wt_ga z0 121 (Int32.toNatClampNeg y9.1)
          rw [wt_tnN b9]
          exact p1
        · rw [if_neg c]
          refine wt_HH_l (wh_look n hn (k := 12 * l + Int32.toNatClampNeg x2) ep (by rw [show wt_ln 41 = 312 from by decide]; omega)) (fun q9 h9 => ?_)
          subst h9
          refine wt_HH_r (wh_cell n (l := l) (i := Int32.toNatClampNeg x2) hx (by omega) hl26 (by omega)) (fun y9 h9 => ?_)
          obtain ⟨a9, b9⟩ := h9
          rw [a9]
          refine wt_HH_gr (fun _ => wt_HH_some (Or.inr (Or.inr ⟨rfl, t0, ?_⟩)))
          show wt_ga s 41 (12 * l + Int32.toNatClampNeg x2) = wt_ga z0 124 (Int32.toNatClampNeg y9.1)
          rw [wt_tnN b9]
          exact p2
  · rw [if_pos (show y1.1 = 0 from c1)]
    have M : wt_H (wp_md_piece_B18 n x1 x2 x3 (1 : Int32) z0) (fun y => wt_gf y.2 108 0 = 2) := by
      unfold wp_md_piece_B18
      refine wt_H_bh (wh_bad1 n t0 (by decide)) (fun y hy => ?_)
      subst hy
      dsimp only
      rw [if_neg (show ¬ ((1 : Int32) = 0) by decide)]
      exact wt_H_some (wt_v_sf rfl)
    have C : wt_H (if x1 < 0 then wp_ap_piece_B10 n x1 x2 x3 s else if x1 < (26 : Int32) then wp_ap_piece_B15 n x1 x2 x3 (0 : Int32) s else wp_ap_piece_B10 n x1 x2 x3 s) (fun q => q.1 = 1) := wt_H_if (fun _ => CB) (fun c => wt_H_if (fun d => by have := wt_ncl c; have := wt_clt d; omega) (fun _ => CB))
    exact wt_HH_of C M (fun a b h h' => Or.inr (Or.inl ⟨h, h'⟩))
end WTQ4
-- 96b.often.lean.txt
section WTQ5
/-! how often something can be set: the class by the letters' reach, the reference by halving -/
theorem wt_go_nn {z : wt_St} {l : Nat} (c : Int) : 0 ≤ wt_go z c l := by
  have h := wt_sum_bd (f := fun i => wt_gf1 z c (13 * l + i)) (c := 1) (Int32.toNatClampNeg (wt_ga z 111 l)) (fun i _ => by
    show 0 ≤ wt_gf1 z c (13 * l + i) ∧ wt_gf1 z c (13 * l + i) ≤ 1
    unfold wt_gf1
    split <;> omega)
  exact h.1
theorem wt_go_anti {z : wt_St} {l : Nat} {c c' : Int} (h : c ≤ c') : wt_go z c' l ≤ wt_go z c l := by
  unfold wt_go
  refine wt_sum_le _ (fun k _ => ?_)
  show wt_gf1 z c' (13 * l + k) ≤ wt_gf1 z c (13 * l + k)
  by_cases a : (wt_ga z 124 (13 * l + k)).toInt = -1 ∧ c' ≤ (wt_ga z 121 (13 * l + k)).toInt
  · have e1 : wt_gf1 z c' (13 * l + k) = 1 := if_pos a
    have e2 : wt_gf1 z c (13 * l + k) = 1 := if_pos (show (wt_ga z 124 (13 * l + k)).toInt = -1 ∧ c ≤ (wt_ga z 121 (13 * l + k)).toInt from ⟨a.1, by omega⟩)
    omega
  · have e1 : wt_gf1 z c' (13 * l + k) = 0 := if_neg a
    have e2 : 0 ≤ wt_gf1 z c (13 * l + k) := by
      unfold wt_gf1
      split <;> omega
    omega
theorem wt_go_att {z : wt_St} {l : Nat} {c : Int} (h : 1 ≤ wt_go z c l) : ∃ i : Nat, i < Int32.toNatClampNeg (wt_ga z 111 l) ∧ (wt_ga z 124 (13 * l + i)).toInt = -1 ∧ c ≤ (wt_ga z 121 (13 * l + i)).toInt ∧ wt_go z (wt_ga z 121 (13 * l + i)).toInt l = wt_go z c l := by
  have M : ∀ m : Nat, (∀ i, i < m → ¬ ((wt_ga z 124 (13 * l + i)).toInt = -1 ∧ c ≤ (wt_ga z 121 (13 * l + i)).toInt)) ∨ ∃ i, i < m ∧ ((wt_ga z 124 (13 * l + i)).toInt = -1 ∧ c ≤ (wt_ga z 121 (13 * l + i)).toInt) ∧ ∀ j, j < m → ((wt_ga z 124 (13 * l + j)).toInt = -1 ∧ c ≤ (wt_ga z 121 (13 * l + j)).toInt) → (wt_ga z 121 (13 * l + i)).toInt ≤ (wt_ga z 121 (13 * l + j)).toInt := by
    intro m
    induction m with
    | zero => exact Or.inl (fun i hi => absurd hi (by omega))
    | succ m ih =>
      by_cases a : (wt_ga z 124 (13 * l + m)).toInt = -1 ∧ c ≤ (wt_ga z 121 (13 * l + m)).toInt
      · rcases ih with ih | ⟨i, h1, h2, h3⟩
        · exact Or.inr ⟨m, by omega, a, fun j hj pj => by
            by_cases e : j = m
            · have e' : (wt_ga z 121 (13 * l + j)).toInt = (wt_ga z 121 (13 * l + m)).toInt := by rw [e]
              omega
            · exact absurd pj (ih j (by omega))⟩
        · by_cases b : (wt_ga z 121 (13 * l + i)).toInt ≤ (wt_ga z 121 (13 * l + m)).toInt
          · exact Or.inr ⟨i, by omega, h2, fun j hj pj => by
              by_cases e : j = m
              · have e' : (wt_ga z 121 (13 * l + j)).toInt = (wt_ga z 121 (13 * l + m)).toInt := by rw [e]
                omega
              · exact h3 j (by omega) pj⟩
          · exact Or.inr ⟨m, by omega, a, fun j hj pj => by
              by_cases e : j = m
              · have e' : (wt_ga z 121 (13 * l + j)).toInt = (wt_ga z 121 (13 * l + m)).toInt := by rw [e]
                omega
              · have := h3 j (by omega) pj
                omega⟩
      · rcases ih with ih | ⟨i, h1, h2, h3⟩
        · exact Or.inl (fun j hj pj => by
            by_cases e : j = m
            · rw [e] at pj
              exact a pj
            · exact ih j (by omega) pj)
        · exact Or.inr ⟨i, by omega, h2, fun j hj pj => by
            by_cases e : j = m
            · rw [e] at pj
              exact absurd pj a
            · exact h3 j (by omega) pj⟩
  rcases M (Int32.toNatClampNeg (wt_ga z 111 l)) with M | ⟨i, h1, h2, h3⟩
  · have b := wt_sum_bd (f := fun j => wt_gf1 z c (13 * l + j)) (c := 0) (Int32.toNatClampNeg (wt_ga z 111 l)) (fun k hk => by
      show 0 ≤ wt_gf1 z c (13 * l + k) ∧ wt_gf1 z c (13 * l + k) ≤ 0
      have e : wt_gf1 z c (13 * l + k) = 0 := if_neg (M k hk)
      omega)
    have h' : 1 ≤ wt_sum (fun j => wt_gf1 z c (13 * l + j)) (Int32.toNatClampNeg (wt_ga z 111 l)) := h
    omega
  · refine ⟨i, h1, h2.1, h2.2, ?_⟩
    unfold wt_go
    refine wt_sum_congr _ (fun k hk => ?_)
    show wt_gf1 z (wt_ga z 121 (13 * l + i)).toInt (13 * l + k) = wt_gf1 z c (13 * l + k)
    by_cases a : (wt_ga z 124 (13 * l + k)).toInt = -1 ∧ c ≤ (wt_ga z 121 (13 * l + k)).toInt
    · have e1 : wt_gf1 z c (13 * l + k) = 1 := if_pos a
      have e2 : wt_gf1 z (wt_ga z 121 (13 * l + i)).toInt (13 * l + k) = 1 := if_pos (show (wt_ga z 124 (13 * l + k)).toInt = -1 ∧ (wt_ga z 121 (13 * l + i)).toInt ≤ (wt_ga z 121 (13 * l + k)).toInt from ⟨a.1, h3 k hk a⟩)
      rw [e1, e2]
    · have e1 : wt_gf1 z c (13 * l + k) = 0 := if_neg a
      have e2 : wt_gf1 z (wt_ga z 121 (13 * l + i)).toInt (13 * l + k) = 0 := if_neg (show ¬ ((wt_ga z 124 (13 * l + k)).toInt = -1 ∧ (wt_ga z 121 (13 * l + i)).toInt ≤ (wt_ga z 121 (13 * l + k)).toInt) from fun b => a ⟨b.1, by have := h2.2; have := b.2; omega⟩)
      rw [e1, e2]
theorem wh_reach (n : Nat) (hn : 4294967297 < n) {a l : Nat} {x1 x2 : Int32} {s z : wt_St} (ha : wt_ln a = 312) (sk : wu_SK a s z) (rz : wt_RI z) (hx : x1.toInt = (l : Int)) (hl : l < 26) : wt_H (wp_sk_reach n a x1 x2 s) (fun q => q.2 = s ∧ (0 ≤ q.1.toInt ∧ q.1.toInt ≤ 1000000) ∧ (0 < x2.toInt → q.1.toInt ≤ 400) ∧ ∀ c : Int, 1 ≤ c → c ≤ 1000000 → (c ≤ q.1.toInt ↔ x2.toInt ≤ wt_go z c l)) := by
  have k0 : (0 : Int32).toInt = 0 := by decide
  have kM : (1000000 : Int32).toInt = 1000000 := by decide
  obtain ⟨m1, m2, m3⟩ := sk l hl
  unfold wp_sk_reach
  refine wt_H_if (fun h => ?_) (fun h => ?_)
  · have h' := wt_clt h
    refine wt_H_it (fun t : Int32 × Int32 × wt_St => t.2.2 = s ∧ (0 ≤ t.2.1.toInt ∧ t.2.1.toInt ≤ (wt_ga s 5 l).toInt) ∧ (0 ≤ t.1.toInt ∧ t.1.toInt ≤ 400) ∧ (t.1.toInt = 0 ∨ x2.toInt ≤ wt_go z t.1.toInt l) ∧ ∀ i : Nat, (i : Int) < t.2.1.toInt → (wt_ga z 124 (13 * l + i)).toInt = -1 → x2.toInt ≤ wt_go z (wt_ga z 121 (13 * l + i)).toInt l → (wt_ga z 121 (13 * l + i)).toInt ≤ t.1.toInt) (fun K t I hK => ?_) n _ ⟨rfl, ⟨by show 0 ≤ ((0 : Int32)).toInt; omega, by show ((0 : Int32)).toInt ≤ _; omega⟩, ⟨by show 0 ≤ ((0 : Int32)).toInt; omega, by show ((0 : Int32)).toInt ≤ 400; omega⟩, Or.inl k0, fun k hk => absurd (show (k : Int) < ((0 : Int32)).toInt from hk) (by omega)⟩
    obtain ⟨i0, ⟨i1, i2⟩, ⟨i3, i4⟩, i5, i6⟩ := I
    have et := wt_tnI i1
    unfold wp_sk_reach_B13
    rw [i0]
    refine wt_H_bh (wh_pieces n hn hx hl) (fun q1 h1 => ?_)
    subst h1
    dsimp only
    refine wt_H_if (fun c => ?_) (fun c => ?_)
    · have c' := wt_cle c
      refine wt_H_some ⟨rfl, ⟨i3, by show t.1.toInt ≤ 1000000; omega⟩, fun _ => i4, fun c c1 c2 => ⟨fun hc => ?_, fun hc => ?_⟩⟩
      · have hc' : c ≤ t.1.toInt := hc
        rcases i5 with e | e
        · omega
        · have := wt_go_anti (z := z) (l := l) hc'
          omega
      · obtain ⟨i, j1, j2, j3, j4⟩ := wt_go_att (z := z) (l := l) (c := c) (by omega)
        rw [← m1] at j1
        have e5 := wt_tnI m2.1
        have := i6 i (by omega) j2 (by rw [j4]; exact hc)
        show c ≤ t.1.toInt
        omega
    · have c' := wt_ncle c
      have ei := wt_i1 (c := t.2.1) (by omega)
      have ep := wt_piece hx hl i1 (by omega)
      obtain ⟨p1, p2⟩ := m3 (Int32.toNatClampNeg t.2.1) (by omega)
      have hz : 0 ≤ (wt_ga z 121 (13 * l + Int32.toNatClampNeg t.2.1)).toInt ∧ (wt_ga z 121 (13 * l + Int32.toNatClampNeg t.2.1)).toInt ≤ 400 := wt_Ra3 rz 121 (show 120 ≤ 121 by omega) (show 121 < 122 by omega) (13 * l + Int32.toNatClampNeg t.2.1)
      have NX : ∀ w : Int32, 0 ≤ w.toInt → w.toInt ≤ 400 → (w.toInt = 0 ∨ x2.toInt ≤ wt_go z w.toInt l) → t.1.toInt ≤ w.toInt → ((wt_ga z 124 (13 * l + Int32.toNatClampNeg t.2.1)).toInt = -1 → x2.toInt ≤ wt_go z (wt_ga z 121 (13 * l + Int32.toNatClampNeg t.2.1)).toInt l → (wt_ga z 121 (13 * l + Int32.toNatClampNeg t.2.1)).toInt ≤ w.toInt) → wt_H (wp_sk_reach_B72 n a x1 x2 w t.2.1 K s) (fun q => q.2 = s ∧ (0 ≤ q.1.toInt ∧ q.1.toInt ≤ 1000000) ∧ (0 < x2.toInt → q.1.toInt ≤ 400) ∧ ∀ c : Int, 1 ≤ c → c ≤ 1000000 → (c ≤ q.1.toInt ↔ x2.toInt ≤ wt_go z c l)) := fun w w0 w4 wg wt wl => by
        unfold wp_sk_reach_B72
        refine hK _ ⟨rfl, ⟨by show 0 ≤ (t.2.1 + (1 : Int32)).toInt; omega, by show (t.2.1 + (1 : Int32)).toInt ≤ _; omega⟩, ⟨w0, w4⟩, wg, fun i hi ho hg => ?_⟩
        have hi' : (i : Int) < (t.2.1 + (1 : Int32)).toInt := hi
        by_cases e : i = Int32.toNatClampNeg t.2.1
        · rw [e] at ho hg ⊢
          exact wl ho hg
        · have := i6 i (by omega) ho hg
          show (wt_ga z 121 (13 * l + i)).toInt ≤ w.toInt
          omega
      refine wt_H_bh (wh_look n hn (k := 12 * l + Int32.toNatClampNeg t.2.1) ep (by rw [ha]; omega)) (fun q4 h4 => ?_)
      subst h4
      dsimp only
      refine wt_H_bh (wh_lies n hn (j := 12 * l + Int32.toNatClampNeg t.2.1) ep (by omega)) (fun q5 h5 => ?_)
      obtain ⟨e5, h5⟩ := h5
      rw [e5]
      rcases h5 with ⟨u, h5⟩ | ⟨u, h5⟩
      · rw [if_neg (show ¬ q5.1 = 0 by rw [u]; decide)]
        rw [p2] at h5
        refine wt_H_if (fun d => ?_) (fun d => ?_)
        · have d' := wt_cle d
          rw [p1] at d'
          exact NX t.1 i3 i4 i5 (Int.le_refl _) (fun _ _ => d')
        · have d' := wt_ncle d
          refine wt_H_bh (wh_ready n hn ha hx hl m2.1 m2.2) (fun q8 h8 => ?_)
          obtain ⟨e8, h8⟩ := h8
          rw [e8]
          rw [wu_rd_go sk hl, p1] at h8
          rw [p1] at d'
          refine wt_H_if (fun f => ?_) (fun f => ?_)
          · have f' := wt_clt f
            exact NX t.1 i3 i4 i5 (Int.le_refl _) (fun _ hg => by omega)
          · have f' := wt_ncl f
            rw [p1]
            exact NX _ hz.1 hz.2 (Or.inr (by omega)) (by omega) (fun _ _ => Int.le_refl _)
      · rw [if_pos (show q5.1 = 0 from u)]
        rw [p2] at h5
        exact NX t.1 i3 i4 i5 (Int.le_refl _) (fun ho _ => absurd ho h5)
  · have h' := wt_ncl h
    refine wt_H_some ⟨rfl, ⟨by show 0 ≤ ((1000000 : Int32)).toInt; omega, by show ((1000000 : Int32)).toInt ≤ 1000000; omega⟩, fun h2 => by omega, fun c c1 c2 => ⟨fun _ => ?_, fun _ => by show c ≤ ((1000000 : Int32)).toInt; omega⟩⟩
    have := wt_go_nn (z := z) (l := l) c
    omega
theorem wh_often (n : Nat) (hn : 4294967297 < n) {a1 a2 : Nat} {s z : wt_St} (h1 : wt_ln a1 = 26) (h2 : wt_ln a2 = 312) (sk : wu_SK a2 s z) (rz : wt_RI z) : wt_H (wp_sk_often n a1 a2 s) (fun q => q.2 = s ∧ (0 ≤ q.1.toInt ∧ q.1.toInt ≤ 1000000) ∧ ((∃ l : Nat, l < 26 ∧ 0 < (wt_ga s a1 l).toInt) → q.1.toInt ≤ 400) ∧ ∀ c : Int, 1 ≤ c → c ≤ 1000000 → (c ≤ q.1.toInt ↔ ∀ l : Nat, l < 26 → (wt_ga s a1 l).toInt ≤ wt_go z c l)) := by
  have k0 : (0 : Int32).toInt = 0 := by decide
  have kM : (1000000 : Int32).toInt = 1000000 := by decide
  have hl26 : (nI (wt_ln a1)).toInt = 26 := by rw [h1]; exact nI_toInt (by omega)
  unfold wp_sk_often
  refine wt_H_it (fun t : Int32 × Int32 × wt_St => t.2.2 = s ∧ (0 ≤ t.2.1.toInt ∧ t.2.1.toInt ≤ 26) ∧ (0 ≤ t.1.toInt ∧ t.1.toInt ≤ 1000000) ∧ ((∃ l : Nat, (l : Int) < t.2.1.toInt ∧ 0 < (wt_ga s a1 l).toInt) → t.1.toInt ≤ 400) ∧ ∀ c : Int, 1 ≤ c → c ≤ 1000000 → (c ≤ t.1.toInt ↔ ∀ l : Nat, (l : Int) < t.2.1.toInt → (wt_ga s a1 l).toInt ≤ wt_go z c l)) (fun K t I hK => ?_) n _ ⟨rfl, ⟨by show 0 ≤ ((0 : Int32)).toInt; omega, by show ((0 : Int32)).toInt ≤ 26; omega⟩, ⟨by show 0 ≤ ((1000000 : Int32)).toInt; omega, by show ((1000000 : Int32)).toInt ≤ 1000000; omega⟩, fun ⟨k, hk, _⟩ => absurd (show (k : Int) < ((0 : Int32)).toInt from hk) (by omega), fun c c1 c2 => ⟨fun _ k hk => absurd (show (k : Int) < ((0 : Int32)).toInt from hk) (by omega), fun _ => by show c ≤ ((1000000 : Int32)).toInt; omega⟩⟩
  obtain ⟨i0, ⟨i1, i2⟩, i3, i4, i5⟩ := I
  have et := wt_tnI i1
  unfold wp_sk_often_B6
  rw [i0]
  refine wt_H_if (fun c => ?_) (fun c => ?_)
  · have c' := wt_cle c
    exact wt_H_some ⟨rfl, i3, fun ⟨l, l1, l2⟩ => i4 ⟨l, by omega, l2⟩, fun c c1 c2 => ⟨fun h l hl => (i5 c c1 c2).mp h l (by omega), fun h => (i5 c c1 c2).mpr (fun l hl => h l (by omega))⟩⟩
  · have c' := wt_ncle c
    have ei := wt_i1 (c := t.2.1) (by omega)
    refine wt_H_gd (fun _ => ?_)
    refine wt_H_bh (wh_reach n hn h2 sk rz (l := Int32.toNatClampNeg t.2.1) (by omega) (by omega)) (fun q3 h3 => ?_)
    obtain ⟨e3, r1, r2, r3⟩ := h3
    rw [e3]
    obtain ⟨w, hw⟩ : ∃ w : Int32, w = if q3.1 < t.1 then q3.1 else t.1 := ⟨_, rfl⟩
    rw [← hw]
    have W : (w.toInt = q3.1.toInt ∧ q3.1.toInt < t.1.toInt) ∨ (w.toInt = t.1.toInt ∧ t.1.toInt ≤ q3.1.toInt) := by
      by_cases d : q3.1 < t.1
      · left
        rw [hw, if_pos d]
        exact ⟨rfl, wt_clt d⟩
      · right
        rw [hw, if_neg d]
        exact ⟨rfl, wt_ncl d⟩
    refine hK _ ⟨rfl, ⟨by show 0 ≤ (t.2.1 + (1 : Int32)).toInt; omega, by show (t.2.1 + (1 : Int32)).toInt ≤ 26; omega⟩, ⟨by show 0 ≤ w.toInt; omega, by show w.toInt ≤ 1000000; omega⟩, fun ⟨l, l1, l2⟩ => ?_, fun c c1 c2 => ⟨fun h l hl => ?_, fun h => ?_⟩⟩
    · show w.toInt ≤ 400
      have l1' : (l : Int) < (t.2.1 + (1 : Int32)).toInt := l1
      by_cases e : l = Int32.toNatClampNeg t.2.1
      · rw [e] at l2
        have := r2 l2
        omega
      · have := i4 ⟨l, by omega, l2⟩
        omega
    · have h' : c ≤ w.toInt := h
      have hl' : (l : Int) < (t.2.1 + (1 : Int32)).toInt := hl
      by_cases e : l = Int32.toNatClampNeg t.2.1
      · rw [e]
        exact (r3 c c1 c2).mp (by omega)
      · exact (i5 c c1 c2).mp (by omega) l (by omega)
    · show c ≤ w.toInt
      have a1 := (r3 c c1 c2).mpr (h (Int32.toNatClampNeg t.2.1) (by show ((Int32.toNatClampNeg t.2.1 : Nat) : Int) < (t.2.1 + (1 : Int32)).toInt; omega))
      have a2 := (i5 c c1 c2).mpr (fun l hl => h l (by show (l : Int) < (t.2.1 + (1 : Int32)).toInt; omega))
      omega
theorem wh_oftenM (n : Nat) (hn : 4294967297 < n) {z : wt_St} (r : wt_RI z) : wt_H (wp_md_often n z) (fun y => y.2 = z ∧ (0 ≤ y.1.toInt ∧ y.1.toInt ≤ 400) ∧ (y.1.toInt = 0 ∨ ∀ l : Nat, l < 26 → (wt_ga z 287 l).toInt ≤ wt_go z y.1.toInt l) ∧ (y.1.toInt = 400 ∨ ¬ ∀ l : Nat, l < 26 → (wt_ga z 287 l).toInt ≤ wt_go z (y.1.toInt + 1) l)) := by
  have k0 : (0 : Int32).toInt = 0 := by decide
  have k1 : (1 : Int32).toInt = 1 := by decide
  have k2 : (2 : Int32).toInt = 2 := by decide
  have k400 : (400 : Int32).toInt = 400 := by decide
  unfold wp_md_often
  refine wt_H_it (fun t : Int32 × Int32 × wt_St => t.2.2 = z ∧ (0 ≤ t.1.toInt ∧ t.1.toInt ≤ t.2.1.toInt ∧ t.2.1.toInt ≤ 400) ∧ (t.1.toInt = 0 ∨ ∀ l : Nat, l < 26 → (wt_ga z 287 l).toInt ≤ wt_go z t.1.toInt l) ∧ (t.2.1.toInt = 400 ∨ ¬ ∀ l : Nat, l < 26 → (wt_ga z 287 l).toInt ≤ wt_go z (t.2.1.toInt + 1) l)) (fun K t I hK => ?_) n _ ⟨rfl, ⟨by show 0 ≤ ((0 : Int32)).toInt; omega, by show ((0 : Int32)).toInt ≤ ((400 : Int32)).toInt; omega, by show ((400 : Int32)).toInt ≤ 400; omega⟩, Or.inl k0, Or.inl k400⟩
  obtain ⟨i0, ⟨i1, i2, i3⟩, i4, i5⟩ := I
  unfold wp_md_often_B6
  rw [i0]
  refine wt_H_if (fun c => ?_) (fun c => ?_)
  · have c' := wt_cle c
    have e : t.1.toInt = t.2.1.toInt := by omega
    refine wt_H_some ⟨rfl, ⟨i1, by show t.1.toInt ≤ 400; omega⟩, i4, ?_⟩
    show t.1.toInt = 400 ∨ ¬ ∀ l : Nat, l < 26 → (wt_ga z 287 l).toInt ≤ wt_go z (t.1.toInt + 1) l
    rw [e]
    exact i5
  · have c' := wt_ncle c
    have a1 := wt_addE (x := t.1) (y := t.2.1) (by omega) (by omega)
    have a2 := wt_addE (x := t.1 + t.2.1) (y := (1 : Int32)) (by omega) (by omega)
    have dv : (((t.1 + t.2.1) + (1 : Int32)) / (2 : Int32)).toInt = ((t.1 + t.2.1) + (1 : Int32)).toInt / 2 := (wt_divI (x := (t.1 + t.2.1) + (1 : Int32)) (y := (2 : Int32)) (by omega) (by omega)).trans (by rw [k2])
    obtain ⟨m, hm⟩ : ∃ m : Int32, m = ((t.1 + t.2.1) + (1 : Int32)) / (2 : Int32) := ⟨_, rfl⟩
    rw [← hm] at dv
    rw [← hm]
    have b1 : t.1.toInt < m.toInt ∧ m.toInt ≤ t.2.1.toInt := by omega
    have es := wt_subE (x := m) (y := (1 : Int32)) (by omega) (by omega)
    refine wt_H_bh (wh_lackingM n hn r) (fun q2 h2 => ?_)
    obtain ⟨e2, h2⟩ := h2
    rw [e2]
    unfold wp_md_often_B37
    rcases h2 with ⟨w, w1, w2, w3, -⟩ | ⟨w1, w2⟩
    · rw [if_neg (show ¬ q2.1 = (-1 : Int32) from fun e => by rw [e, wt_lm1] at w2; omega)]
      refine hK _ ⟨rfl, ⟨i1, by show t.1.toInt ≤ (m - (1 : Int32)).toInt; omega, by show (m - (1 : Int32)).toInt ≤ 400; omega⟩, i4, Or.inr (fun h => ?_)⟩
      have h' : ∀ l : Nat, l < 26 → (wt_ga z 287 l).toInt ≤ wt_go z ((m - (1 : Int32)).toInt + 1) l := h
      have e : (m - (1 : Int32)).toInt + 1 = m.toInt := by omega
      rw [e] at h'
      have := h' w w1
      omega
    · rw [if_pos w1]
      refine hK _ ⟨rfl, ⟨by show 0 ≤ m.toInt; omega, b1.2, i3⟩, Or.inr (fun l hl => ?_), i5⟩
      have := w2 l hl
      show (wt_ga z 287 l).toInt ≤ wt_go z m.toInt l
      omega
theorem wr_often (n : Nat) (hn : 4294967297 < n) {a1 a2 : Nat} {s z : wt_St} (h1 : wt_ln a1 = 26) (h2 : wt_ln a2 = 312) (sk : wu_SK a2 s z) (rz : wt_RI z) (nd : ∀ l, l < 26 → wt_ga s a1 l = wt_ga z 287 l) (ps : ∃ l : Nat, l < 26 ∧ 0 < (wt_ga z 287 l).toInt) : wt_HH (wp_sk_often n a1 a2 s) (wp_md_often n z) (fun q y => q.1 = y.1 ∧ q.2 = s ∧ y.2 = z) := by
  refine wt_HH_of (wh_often n hn h1 h2 sk rz) (wh_oftenM n hn rz) (fun q y hq hy => ?_)
  obtain ⟨e1, b1, b2, b3⟩ := hq
  obtain ⟨e2, d1, d2, d3⟩ := hy
  refine ⟨wt_eqI ?_, e1, e2⟩
  have b2' : q.1.toInt ≤ 400 := by
    obtain ⟨l, l1, l2⟩ := ps
    exact b2 ⟨l, l1, by rw [nd l l1]; exact l2⟩
  have b3' : ∀ c : Int, 1 ≤ c → c ≤ 1000000 → (c ≤ q.1.toInt ↔ ∀ l : Nat, l < 26 → (wt_ga z 287 l).toInt ≤ wt_go z c l) := fun c c1 c2 => (b3 c c1 c2).trans ⟨fun h l hl => by rw [← nd l hl]; exact h l hl, fun h l hl => by rw [nd l hl]; exact h l hl⟩
  have lo : y.1.toInt ≤ q.1.toInt := by
    by_cases c : y.1.toInt = 0
    · omega
    · rcases d2 with d2 | d2
      · exact absurd d2 c
      · exact (b3' y.1.toInt (by omega) (by omega)).mpr d2
  have hi : q.1.toInt ≤ y.1.toInt := by
    rcases d3 with d3 | d3
    · omega
    · by_cases c : y.1.toInt + 1 ≤ q.1.toInt
      · exact absurd ((b3' (y.1.toInt + 1) (by omega) (by omega)).mp c) d3
      · omega
  omega
end WTQ5
-- 96c.gates2.lean.txt
section WTQ6
/-! the gates once for all: a text, a word, a page, copies -/
theorem wr_mb0 (n : Nat) {k : Int32} {s z0 : wt_St} {C : Nat × Int32 × wt_St → Option (Nat × Int32 × wt_St)} {D : Int32 × wt_St → Option (Int32 × wt_St)} {Q : Nat × Int32 × wt_St → Int32 × wt_St → Prop} (t0 : wt_gf z0 108 0 = 0) (h : wt_HH (C (0, 0, s)) (D (0, z0)) Q) : wt_HH ((wp_ap_miss n (0 : Int32) s).bind (fun q3 => if q3.1 = 0 then C q3 else some (q3.1, 0, q3.2.2))) ((wp_md_bad n (0 : Int32) k z0).bind (fun q3 => if q3.1 = 0 then D q3 else some ((0 : Int32), q3.2))) Q := by
  refine wt_HH_l (wh_miss0 n) (fun q hq => ?_)
  subst hq
  refine wt_HH_r (wh_bad0 n t0) (fun y hy => ?_)
  subst hy
  rw [if_pos (show ((0 : Nat), (0 : Int32), s).1 = 0 from rfl), if_pos (show ((0 : Int32), z0).1 = 0 from rfl)]
  exact h
theorem wr_mb1 (n : Nat) {k : Int32} {s z0 : wt_St} {C : Nat × Int32 × wt_St → Option (Nat × Int32 × wt_St)} {D : Int32 × wt_St → Option (Int32 × wt_St)} {Q : Nat × Int32 × wt_St → Int32 × wt_St → Prop} (t0 : wt_gf z0 108 0 = 0) (hk : ¬ k = 0) (h : Q (2, 0, s) (0, wt_sf z0 108 0 k)) : wt_HH ((wp_ap_miss n (1 : Int32) s).bind (fun q3 => if q3.1 = 0 then C q3 else some (q3.1, 0, q3.2.2))) ((wp_md_bad n (1 : Int32) k z0).bind (fun q3 => if q3.1 = 0 then D q3 else some ((0 : Int32), q3.2))) Q := by
  refine wt_HH_l (wh_miss1 n) (fun q hq => ?_)
  subst hq
  refine wt_HH_r (wh_bad1 n t0 hk) (fun y hy => ?_)
  subst hy
  rw [if_neg (show ¬ ((2 : Nat), (0 : Int32), s).1 = 0 by show ¬ ((2 : Nat) = 0); decide), if_neg (show ¬ ((1 : Int32), wt_sf z0 108 0 k).1 = 0 by show ¬ ((1 : Int32) = 0); decide)]
  exact wt_HH_some h
theorem wh_b1 (n : Nat) {k : Int32} {z0 : wt_St} {D : Int32 × wt_St → Option (Int32 × wt_St)} {P : Int32 × wt_St → Prop} (t0 : wt_gf z0 108 0 = 0) (hk : ¬ k = 0) (h : P (0, wt_sf z0 108 0 k)) : wt_H ((wp_md_bad n (1 : Int32) k z0).bind (fun q3 => if q3.1 = 0 then D q3 else some ((0 : Int32), q3.2))) P := by
  refine wt_H_bh (wh_bad1 n t0 hk) (fun y hy => ?_)
  subst hy
  rw [if_neg (show ¬ ((1 : Int32), wt_sf z0 108 0 k).1 = 0 by show ¬ ((1 : Int32) = 0); decide)]
  exact wt_H_some h
theorem wr_b0 (n : Nat) {α : Type} {k : Int32} {z0 : wt_St} {p : Option α} {D : Int32 × wt_St → Option (Int32 × wt_St)} {Q : α → Int32 × wt_St → Prop} (t0 : wt_gf z0 108 0 = 0) (h : wt_HH p (D (0, z0)) Q) : wt_HH p ((wp_md_bad n (0 : Int32) k z0).bind (fun q3 => if q3.1 = 0 then D q3 else some ((0 : Int32), q3.2))) Q := by
  refine wt_HH_r (wh_bad0 n t0) (fun y hy => ?_)
  subst hy
  rw [if_pos (show ((0 : Int32), z0).1 = 0 from rfl)]
  exact h
theorem wr_gT (n : Nat) {x1 : Int32} {s z0 : wt_St} (B : Int32 → wt_St → Option (Nat × Int32 × wt_St)) (D : Int32 → wt_St → Option (Int32 × wt_St)) {Q : Nat × Int32 × wt_St → Int32 × wt_St → Prop} (eT : wt_gf s 34 4 = wt_gf z0 108 39) (hz : 0 ≤ (wt_gf z0 108 39).toInt ∧ (wt_gf z0 108 39).toInt ≤ 8) (no : wt_HH (B 1 s) (D 1 z0) Q) (yes : 0 ≤ x1.toInt → x1.toInt < (wt_gf z0 108 39).toInt → wt_HH (B 0 s) (D 0 z0) Q) : wt_HH ((wp_tx_has n x1 s).bind fun q1 => if q1.1 = 0 then B (1 : Int32) q1.2 else B (0 : Int32) q1.2) ((wp_md_isText n x1 z0).bind fun q1 => if q1.1 = 0 then D (1 : Int32) q1.2 else D (0 : Int32) q1.2) Q := by
  have eT' := wt_ceq eT
  refine wt_HH_l (wh_txhas n) (fun q1 h1 => ?_)
  obtain ⟨a1, b1⟩ := h1
  rw [a1]
  refine wt_HH_r (wh_isText n hz.1 hz.2) (fun y1 h1' => ?_)
  obtain ⟨a2, b2⟩ := h1'
  rw [a2]
  rcases b1 with ⟨c1, c2, c3⟩ | ⟨c1, c2⟩
  · rcases b2 with ⟨d1, d2, d3⟩ | ⟨d1, d2⟩
    · rw [if_neg (show ¬ q1.1 = 0 by rw [c1]; decide), if_neg (show ¬ y1.1 = 0 by rw [d1]; decide)]
      exact yes d2 d3
    · omega
  · rcases b2 with ⟨d1, d2, d3⟩ | ⟨d1, -⟩
    · omega
    · rw [if_pos (show q1.1 = 0 from c1), if_pos (show y1.1 = 0 from d1)]
      exact no
theorem wr_gW (n : Nat) {x1 : Int32} {s z0 : wt_St} (B : Int32 → wt_St → Option (Nat × Int32 × wt_St)) (D : Int32 → wt_St → Option (Int32 × wt_St)) {Q : Nat × Int32 × wt_St → Int32 × wt_St → Prop} (eT : (wt_gf s 20 6).toInt = (wt_gf z0 108 28).toInt) (hz : 0 ≤ (wt_gf z0 108 28).toInt ∧ (wt_gf z0 108 28).toInt ≤ 60) (no : wt_HH (B 1 s) (D 1 z0) Q) (yes : 0 ≤ x1.toInt → x1.toInt < (wt_gf z0 108 28).toInt → wt_HH (B 0 s) (D 0 z0) Q) : wt_HH ((wp_tg_has n 20 x1 s).bind fun q1 => if q1.1 = 0 then B (1 : Int32) q1.2 else B (0 : Int32) q1.2) ((wp_md_isWordNumber n x1 z0).bind fun q1 => if q1.1 = 0 then D (1 : Int32) q1.2 else D (0 : Int32) q1.2) Q := by
  refine wt_HH_l (wh_tghas n) (fun q1 h1 => ?_)
  obtain ⟨a1, b1⟩ := h1
  rw [a1]
  refine wt_HH_r (wh_isWordNumber n hz.1 hz.2) (fun y1 h1' => ?_)
  obtain ⟨a2, b2⟩ := h1'
  rw [a2]
  rcases b1 with ⟨c1, c2, c3⟩ | ⟨c1, c2⟩
  · rcases b2 with ⟨d1, d2, d3⟩ | ⟨d1, d2⟩
    · rw [if_neg (show ¬ q1.1 = 0 by rw [c1]; decide), if_neg (show ¬ y1.1 = 0 by rw [d1]; decide)]
      exact yes d2 d3
    · omega
  · rcases b2 with ⟨d1, d2, d3⟩ | ⟨d1, -⟩
    · omega
    · rw [if_pos (show q1.1 = 0 from c1), if_pos (show y1.1 = 0 from d1)]
      exact no
theorem wr_gP (n : Nat) (hn : 4294967297 < n) {x1 : Int32} {s z0 : wt_St} (B : Int32 → wt_St → Option (Nat × Int32 × wt_St)) (D : Int32 → wt_St → Option (Int32 × wt_St)) {Q : Nat × Int32 × wt_St → Int32 × wt_St → Prop} (eP : ∀ g, g < 4 → wt_ga s 43 g = wt_ga z0 275 g) (no : wt_HH (B 1 s) (D 1 z0) Q) (yes : 0 ≤ x1.toInt → x1.toInt < 4 → (wt_ga z0 275 (Int32.toNatClampNeg x1)).toInt ≠ -1 → wt_HH (B 0 s) (D 0 z0) Q) : wt_HH ((wp_pg_stands n x1 s).bind fun q1 => if q1.1 = 0 then B (1 : Int32) q1.2 else B (0 : Int32) q1.2) ((wp_md_isPage n x1 z0).bind fun q1 => if q1.1 = 0 then D (1 : Int32) q1.2 else D (0 : Int32) q1.2) Q := by
  refine wt_HH_l (wh_stands n hn) (fun q1 h1 => ?_)
  obtain ⟨a1, b1⟩ := h1
  rw [a1]
  refine wt_HH_r (wh_isPage n) (fun y1 h1' => ?_)
  obtain ⟨a2, b2⟩ := h1'
  rw [a2]
  have same : ∀ h : (0 ≤ x1.toInt ∧ x1.toInt < 4), wt_ga s 43 (Int32.toNatClampNeg x1) = wt_ga z0 275 (Int32.toNatClampNeg x1) := fun h => eP _ (by have := wt_tnI h.1; omega)
  rcases b1 with ⟨c1, c2, c3⟩ | ⟨c1, c2⟩
  · rcases b2 with ⟨d1, d2, d3⟩ | ⟨d1, d2⟩
    · rw [if_neg (show ¬ q1.1 = 0 by rw [c1]; decide), if_neg (show ¬ y1.1 = 0 by rw [d1]; decide)]
      exact yes d2.1 d2.2 d3
    · exact absurd ⟨c2, by rw [← same c2]; exact c3⟩ d2
  · rcases b2 with ⟨d1, d2, d3⟩ | ⟨d1, -⟩
    · exact absurd ⟨d2, by rw [same d2]; exact d3⟩ c2
    · rw [if_pos (show q1.1 = 0 from c1), if_pos (show y1.1 = 0 from d1)]
      exact no
theorem wr_gC (n : Nat) {x2 : Int32} {s z0 : wt_St} {C : Nat × Int32 × wt_St → Option (Nat × Int32 × wt_St)} (D : Int32 → wt_St → Option (Int32 × wt_St)) {Q : Nat × Int32 × wt_St → Int32 × wt_St → Prop} (no : wt_H (D 1 z0) (fun y => Q (1, 0, s) y)) (yes : 1 ≤ x2.toInt → x2.toInt ≤ 400 → wt_HH (C (0, 0, s)) (D 0 z0) Q) : wt_HH ((wp_ap_refuseCopies n x2 s).bind fun q4 => if q4.1 = 0 then C q4 else some (q4.1, 0, q4.2.2)) ((wp_md_isCopies n x2 z0).bind fun q5 => if q5.1 = 0 then D (1 : Int32) q5.2 else D (0 : Int32) q5.2) Q := by
  refine wt_HH_l (wh_copies n) (fun q4 h4 => ?_)
  refine wt_HH_r (wh_isCopies n) (fun y5 h5 => ?_)
  obtain ⟨a5, b5⟩ := h5
  rw [a5]
  rcases h4 with ⟨h4, f1, f2⟩ | ⟨h4, f1⟩
  · rcases b5 with ⟨i1, -, -⟩ | ⟨i1, i2⟩
    · subst h4
      rw [if_pos (show ((0 : Nat), (0 : Int32), s).1 = 0 from rfl), if_neg (show ¬ y5.1 = 0 by rw [i1]; decide)]
      exact yes f1 f2
    · omega
  · rcases b5 with ⟨i1, i2, i3⟩ | ⟨i1, -⟩
    · omega
    · subst h4
      rw [if_neg (show ¬ ((1 : Nat), (0 : Int32), s).1 = 0 by show ¬ ((1 : Nat) = 0); decide), if_pos (show y5.1 = 0 from i1)]
      exact fun a b ha hb => by
        cases ha
        exact no b hb
end WTQ6
-- 96d.can.lean.txt
section WTQ7
/-! lacks, can, word on both sides -/
theorem wu_RL_z0 {s z z0 : wt_St} (rl : wu_RL s z) (r : wt_RI z) (g : wt_fr (fun i k => i = 108 ∧ k = 0) (fun _ => False) z z0) : wu_RL s z0 := wu_RL_fr rl r (wt_fr.rf (F := fun _ _ => False) (A := fun _ => False)) g (fun _ _ _ h => h) (fun _ _ h => h) (fun k hk => by unfold wu_RG at hk; (try dsimp only); omega) (fun _ _ h => h)
theorem wu_nw_pos {s z : wt_St} {W w : Nat} (h : wt_tt 20 126 128 130 193 W s z) (hw : w < W) : ∃ l : Nat, l < 26 ∧ 0 < wt_nw z w (l : Int) := by
  obtain ⟨a, -, -, b, -, e⟩ := h w hw
  obtain ⟨e1, e2, e3⟩ := e 0 (by show ((0 : Nat) : Int) < _; omega)
  have et := wt_tnI e2
  rw [e1] at et e3
  have el := wt_tnI (x := wt_ga s (20 + 2) w) (by omega)
  rw [a] at el b
  refine ⟨Int32.toNatClampNeg (wt_ga z (193 + w) 0), by omega, ?_⟩
  have h1 := wt_sum_pre (f := fun k => if (wt_ga z (193 + w) k).toInt = ((Int32.toNatClampNeg (wt_ga z (193 + w) 0) : Nat) : Int) then 1 else 0) (a := 1) (Int32.toNatClampNeg (wt_ga z 126 w)) (by omega) (fun k _ => by
    show (0 : Int) ≤ if (wt_ga z (193 + w) k).toInt = ((Int32.toNatClampNeg (wt_ga z (193 + w) 0) : Nat) : Int) then 1 else 0
    split <;> omega)
  have h2 : wt_sum (fun k => if (wt_ga z (193 + w) k).toInt = ((Int32.toNatClampNeg (wt_ga z (193 + w) 0) : Nat) : Int) then 1 else 0) 1 ≤ wt_nw z w ((Int32.toNatClampNeg (wt_ga z (193 + w) 0) : Nat) : Int) := h1
  have h0 : wt_sum (fun k => if (wt_ga z (193 + w) k).toInt = ((Int32.toNatClampNeg (wt_ga z (193 + w) 0) : Nat) : Int) then 1 else 0) 1 = 1 := by
    show (0 : Int) + (if (wt_ga z (193 + w) 0).toInt = ((Int32.toNatClampNeg (wt_ga z (193 + w) 0) : Nat) : Int) then 1 else 0) = 1
    rw [if_pos et.symm]
    rfl
  rw [h0] at h2
  omega
theorem wu_nt_pos {s z : wt_St} {t : Nat} (to : wt_TO s z) (x : wu_X1 s z t) : ∃ l : Nat, l < 26 ∧ 0 < wt_nt z t (l : Int) := by
  obtain ⟨W, G, ⟨-, w2, -⟩, -, tt, -⟩ := to
  obtain ⟨m, m1, m2, m3, -, m5, -⟩ := x
  obtain ⟨e1, e2, e3⟩ := m5 0 (by omega)
  have et := wt_tnI e2
  rw [e1] at et e3
  obtain ⟨l, l1, l2⟩ := wu_nw_pos tt (w := Int32.toNatClampNeg (wt_ga z (255 + t) 0)) (by omega)
  refine ⟨l, l1, ?_⟩
  have em : Int32.toNatClampNeg (wt_ga z 253 t) = m := by
    rw [m2]
    exact wt_tnN m1
  have h1 := wt_sum_pre (f := fun k => wt_nw z (Int32.toNatClampNeg (wt_ga z (255 + t) k)) (l : Int)) (a := 1) (Int32.toNatClampNeg (wt_ga z 253 t)) (by omega) (fun k _ => (wt_ct_bd _ _ _).1)
  have h2 : wt_sum (fun k => wt_nw z (Int32.toNatClampNeg (wt_ga z (255 + t) k)) (l : Int)) 1 ≤ wt_nt z t (l : Int) := h1
  have h0 : wt_sum (fun k => wt_nw z (Int32.toNatClampNeg (wt_ga z (255 + t) k)) (l : Int)) 1 = 0 + wt_nw z (Int32.toNatClampNeg (wt_ga z (255 + t) 0)) (l : Int) := rfl
  rw [h0] at h2
  omega
/-- what a text needs, laid out on both sides -/
theorem wr_spell (n : Nat) (hn : 4294967297 < n) {a : Nat} {x1 : Int32} {s z : wt_St} (ha : wt_ln a = 26) (h37 : a ≠ 37) (r : wt_RI z) (to : wt_TO s z) (tx : wu_TX s z) (h0 : 0 ≤ x1.toInt) (h1 : x1.toInt < (wt_gf z 108 39).toInt) : wt_HH (wp_tx_spell n a x1 s) (wp_md_needsText n x1 z) (fun q y => wt_fr (fun _ _ => False) (fun i => i = a) s q ∧ wt_fr (fun _ _ => False) (fun i => i = 287) z y ∧ wt_RI y ∧ (∀ l, l < 26 → wt_ga q a l = wt_ga y 287 l) ∧ (∃ l : Nat, l < 26 ∧ 0 < (wt_ga y 287 l).toInt) ∧ (∀ l : Nat, l < 26 → (wt_ga y 287 l).toInt = wt_nt z (Int32.toNatClampNeg x1) (l : Int)) ∧ wt_NB y) := by
  have hz : 0 ≤ (wt_gf z 108 39).toInt ∧ (wt_gf z 108 39).toInt ≤ 8 := wt_Rf7 r
  have et := wt_tnI h0
  have X := tx.2 (Int32.toNatClampNeg x1) (by omega)
  refine wt_HH_of (wh_spell n hn (t := Int32.toNatClampNeg x1) ha h37 (by omega) (by omega)) (wq_md_needsText n hn x1 z r h0 (by omega)).h (fun q y hq hy => ?_)
  obtain ⟨f, e⟩ := hq
  obtain ⟨g, ry, nb, d⟩ := hy
  refine ⟨f, g, ry, fun l hl => ?_, ?_, d, nb⟩
  · obtain ⟨tm, -, -, -, -, -, tn6⟩ := X
    refine wt_eqI ?_
    rw [e l hl, tn6 l hl, d l hl]
  · obtain ⟨l, l1, l2⟩ := wu_nt_pos to X
    exact ⟨l, l1, by rw [d l l1]; exact l2⟩
theorem wr_lacks (n : Nat) (hn : 4294967297 < n) {x1 x2 : Int32} {s z : wt_St} (v : wt_IV z) (rl : wu_RL s z) : wt_HH (wp_ap_lacks n x1 x2 s) (wp_md_lacks n x1 x2 z) (fun q y => (q.1 = 2 ∧ wt_gf y.2 108 0 = 1) ∨ (q.1 = 1 ∧ wt_gf y.2 108 0 = 2) ∨ (q.1 = 0 ∧ wt_gf y.2 108 0 = 0 ∧ q.2.1 = y.1)) := by
  unfold wp_ap_lacks wp_md_lacks
  obtain ⟨z0, ε0⟩ : ∃ o : wt_St, o = wt_sf z 108 0 (0 : Int32) := ⟨_, rfl⟩
  rw [← ε0]
  have g0 := wt_fr_sf ε0
  have t0 : wt_gf z0 108 0 = 0 := wt_v_sf ε0
  have r0 : wt_RI z0 := wt_RI_fno v.1 ε0 (Or.inr (by decide +kernel))
  obtain ⟨-, -, to, lc, tx, sc, -⟩ := wu_RL_z0 rl v.1 g0
  have sk := wu_SK_of lc sc
  have hz : 0 ≤ (wt_gf z0 108 39).toInt ∧ (wt_gf z0 108 39).toInt ≤ 8 := wt_Rf7 r0
  refine wr_gT n (wp_ap_lacks_B16 n x1 x2) (wp_md_lacks_B19 n x1 x2) tx.1 hz (wr_mb1 n t0 (by decide) (Or.inl ⟨rfl, wt_v_sf rfl⟩)) (fun hx0 hx1 => wr_mb0 n t0 (wr_gC n (wp_md_lacks_B39 n x1 x2) (wh_b1 n t0 (by decide) (Or.inr (Or.inl ⟨rfl, wt_v_sf rfl⟩))) (fun c1 c2 => wr_b0 n t0 ?_)))
  refine wt_HH_b (wr_spell n hn (a := 107) (by decide) (by decide) r0 to tx hx0 hx1) (fun s1 z1 h => ?_)
  obtain ⟨f1, fn, rz1, nd, -⟩ := h
  have sk1 : wu_SK 40 s1 z1 := wu_SK_fr sk f1 fn ⟨by decide, by decide, by decide⟩ ⟨by decide, by decide, by decide⟩
  have same : ∀ l, l < 26 → (wu_rd s1 40 x2.toInt l < (wt_ga s1 107 l).toInt ↔ wt_go z1 x2.toInt l < (wt_ga z1 287 l).toInt) := fun l hl => by
    rw [wu_rd_go sk1 hl, nd l hl]
  refine wt_HH_b (wt_HH_of (wh_lacking n hn (by decide) (by decide) (fun l hl => (sk1 l hl).2.1)) (wh_lackingM n hn rz1) (Q := fun a b => b.2 = z1 ∧ a.1 = b.1) (fun a b ha hb => ⟨hb.1, wt_fst_u ha.2 hb.2 same⟩)) (fun a b hab => ?_)
  refine wt_HH_some (Or.inr (Or.inr ⟨rfl, ?_, hab.2⟩))
  show wt_gf b.2 108 0 = 0
  rw [hab.1, fn.1 108 0 (fun h => h)]
  exact t0
theorem wr_can (n : Nat) (hn : 4294967297 < n) {x1 : Int32} {s z : wt_St} (v : wt_IV z) (rl : wu_RL s z) : wt_HH (wp_ap_can n x1 s) (wp_md_can n x1 z) (fun q y => (q.1 = 2 ∧ wt_gf y.2 108 0 = 1) ∨ (q.1 = 0 ∧ wt_gf y.2 108 0 = 0 ∧ q.2.1 = y.1)) := by
  unfold wp_ap_can wp_md_can
  obtain ⟨z0, ε0⟩ : ∃ o : wt_St, o = wt_sf z 108 0 (0 : Int32) := ⟨_, rfl⟩
  rw [← ε0]
  have g0 := wt_fr_sf ε0
  have t0 : wt_gf z0 108 0 = 0 := wt_v_sf ε0
  have r0 : wt_RI z0 := wt_RI_fno v.1 ε0 (Or.inr (by decide +kernel))
  obtain ⟨-, -, to, lc, tx, sc, -⟩ := wu_RL_z0 rl v.1 g0
  have sk := wu_SK_of lc sc
  have hz : 0 ≤ (wt_gf z0 108 39).toInt ∧ (wt_gf z0 108 39).toInt ≤ 8 := wt_Rf7 r0
  refine wr_gT n (wp_ap_can_B16 n x1) (wp_md_can_B19 n x1) tx.1 hz (wr_mb1 n t0 (by decide) (Or.inl ⟨rfl, wt_v_sf rfl⟩)) (fun hx0 hx1 => wr_mb0 n t0 ?_)
  refine wt_HH_b (wr_spell n hn (a := 107) (by decide) (by decide) r0 to tx hx0 hx1) (fun s1 z1 h => ?_)
  obtain ⟨f1, fn, rz1, nd, ps, -⟩ := h
  have sk1 : wu_SK 40 s1 z1 := wu_SK_fr sk f1 fn ⟨by decide, by decide, by decide⟩ ⟨by decide, by decide, by decide⟩
  refine wt_HH_b (wr_often n hn (by decide) (by decide) sk1 rz1 nd ps) (fun a b hab => ?_)
  refine wt_HH_some (Or.inr ⟨rfl, ?_, hab.1⟩)
  show wt_gf b.2 108 0 = 0
  rw [hab.2.2, fn.1 108 0 (fun h => h)]
  exact t0
/-- what a word needs -/
theorem wh_spellW (n : Nat) (hn : 4294967297 < n) {a w W : Nat} {x1 : Int32} {s z : wt_St} (ha : wt_ln a = 26) (h21 : a ≠ 21) (h22 : a ≠ 22) (tt : wt_tt 20 126 128 130 193 W s z) (hW : W ≤ 60) (hx : x1.toInt = (w : Int)) (hw : w < W) : wt_H (wp_tg_spell n 20 a x1 s) (fun q => wt_fr (fun _ _ => False) (fun i => i = a) s q ∧ ∀ l, l < 26 → (wt_ga q a l).toInt = wt_nw z w (l : Int)) := by
  have k0 : (0 : Int32).toInt = 0 := by decide
  obtain ⟨a2, -, -, b2, -, e2⟩ := tt w hw
  obtain ⟨m, hm⟩ : ∃ m : Nat, (m : Int) = (wt_ga s (20 + 2) w).toInt := ⟨Int32.toNatClampNeg (wt_ga s (20 + 2) w), wt_tnI (by omega)⟩
  unfold wp_tg_spell
  refine wt_H_bh (wh_fillRow n) (fun s1 h1 => ?_)
  obtain ⟨f1, z1⟩ := h1
  have s21 : ∀ j, wt_ga s1 (20 + 1) j = wt_ga s (20 + 1) j := f1.2 (20 + 1) (fun h => h21 h.symm)
  have s22 : ∀ j, wt_ga s1 (20 + 2) j = wt_ga s (20 + 2) j := f1.2 (20 + 2) (fun h => h22 h.symm)
  refine wt_H_bh (wh_countInto n hn (t0 := 20) (a2 := a) (w := w) (m := m) (c := 0) (by decide) (by decide) ha h21 h22 hx (by omega) (by rw [s22]; exact hm.symm) (by omega) (fun k hk => by rw [s21]; exact (e2 k (by omega)).2) (fun l hl => by rw [z1 l (by rw [ha]; exact hl), k0]; exact ⟨Int.le_refl _, Int.le_refl _⟩) (by omega)) (fun s2 h2 => ?_)
  obtain ⟨f2, n2⟩ := h2
  refine wt_H_some ⟨wt_fr.tr f1 f2 (fun i k h => h) (fun i h => h), fun l hl => ?_⟩
  rw [n2 l hl, z1 l (by rw [ha]; exact hl), k0]
  have e : wt_ct (fun k => (wt_ga s1 (20 + 1) (9 * w + k)).toInt) (l : Int) m = wt_ct (fun k => (wt_ga s 21 (9 * w + k)).toInt) (l : Int) m := wt_ct_congr m (fun k _ => by show (wt_ga s1 (20 + 1) (9 * w + k)).toInt = (wt_ga s (20 + 1) (9 * w + k)).toInt; rw [s21])
  rw [e, wt_nw_tt tt hw hm.symm]
  omega
/-- how often a word can be set: a rule -/
theorem wr_canW (n : Nat) (hn : 4294967297 < n) {α β : Type} {a a2 w W : Nat} {x1 : Int32} {s z : wt_St} {f : Int32 × wt_St → Option α} {g : Int32 × wt_St → Option β} {Q : α → β → Prop} (ha : wt_ln a = 26) (h21 : a ≠ 21) (h22 : a ≠ 22) (h5 : a ≠ 5) (h41 : a ≠ 41) (ha2 : wt_ln a2 = 312) (r : wt_RI z) (sk : wu_SK a2 s z) (tt : wt_tt 20 126 128 130 193 W s z) (hW : W ≤ 60) (hx : x1.toInt = (w : Int)) (hw : w < W) (k : ∀ q y, q.1 = y.1 → wt_fr (fun _ _ => False) (fun i => i = a) s q.2 → wt_fr (fun _ _ => False) (fun i => i = 287) z y.2 → wt_RI y.2 → wt_HH (f q) (g y) Q) : wt_HH ((wp_tg_spell n 20 a x1 s).bind fun q13 => (wp_sk_often n a a2 q13).bind f) ((wp_md_canWord n x1 z).bind g) Q := by
  have h2 : a ≠ a2 := fun e => by rw [e, ha2] at ha; exact absurd ha (by decide)
  unfold wp_md_canWord
  refine wt_HH_l (wh_spellW n hn ha h21 h22 tt hW hx hw) (fun s1 h1 => ?_)
  obtain ⟨f1, n1⟩ := h1
  simp only [Option.bind_assoc]
  refine wt_HH_r (wq_md_needsNoneP n hn z r).h (fun z1 h1 => ?_)
  obtain ⟨g1, r1, v1⟩ := h1
  refine wt_HH_r (wq_md_needsWordP n hn x1 z1 r1 (by omega) (by omega) (fun l hl => by have := v1 l hl; omega)).h (fun z2 h2 => ?_)
  obtain ⟨g2, r2, v2⟩ := h2
  have G : wt_fr (fun _ _ => False) (fun i => i = 287) z z2 := wt_fr.tr g1 g2 (fun i k h => h) (fun i h => h)
  have nd : ∀ l, l < 26 → (wt_ga z2 287 l).toInt = wt_nw z w (l : Int) := fun l hl => by
    rw [v2 l hl, v1 l hl, wt_tnN hx]
    have e : wt_nw z1 w (l : Int) = wt_nw z w (l : Int) := wt_nw_fr (by omega) (fun i hi j => g1.2 i (fun h => by rw [h] at hi; exact absurd hi (by unfold wt_PA; omega)) j)
    rw [e]
    omega
  have sk2 : wu_SK a2 s1 z2 := wu_SK_fr sk f1 G ⟨fun h => h5 h.symm, fun h => h2 h.symm, fun h => h41 h.symm⟩ ⟨by decide, by decide, by decide⟩
  obtain ⟨l, l1, l2⟩ := wu_nw_pos tt hw
  refine wt_HH_b (wr_often n hn ha ha2 sk2 r2 (fun l hl => wt_eqI (by rw [n1 l hl, nd l hl])) ⟨l, l1, by rw [nd l l1]; exact l2⟩) (fun q y h => ?_)
  exact k q y h.1 (by rw [h.2.1]; exact f1) (by rw [h.2.2]; exact G) (by rw [h.2.2]; exact r2)
/-- the price of a word, in step -/
theorem wr_priceW (n : Nat) (hn : 4294967297 < n) {w W : Nat} {x1 : Int32} {s z : wt_St} (tt : wt_tt 20 126 128 130 193 W s z) (hW : W ≤ 60) (pr : ∀ l, l < 26 → wt_ga s 9 l = wt_ga z 115 l) (hx : x1.toInt = (w : Int)) (hw : w < W) : wt_HH (wp_rw_priceOf n x1 s) (wp_md_priceOf n x1 z) (fun q y => q.1 = y.1 ∧ q.2 = s ∧ y.2 = z) := by
  have k0 : (0 : Int32).toInt = 0 := by decide
  obtain ⟨a2, -, -, b2, -, e2⟩ := tt w hw
  have ew := wt_tnN hx
  unfold wp_rw_priceOf wp_md_priceOf
  refine wt_HH_it (fun a b : Int32 × Int32 × wt_St => a.1 = b.1 ∧ a.2.1 = b.2.1 ∧ a.2.2 = s ∧ b.2.2 = z ∧ 0 ≤ b.2.1.toInt) (fun K K' a b I hK => ?_) n n _ _ ⟨rfl, rfl, rfl, rfl, by show 0 ≤ ((0 : Int32)).toInt; omega⟩
  obtain ⟨i1, i2, i3, i4, i5⟩ := I
  have et := wt_tnI i5
  unfold wp_rw_priceOf_B4 wp_md_priceOf_B4
  rw [i1, i2, i3, i4, ew]
  refine wt_HH_l (wh_look n hn (k := w) hx (by rw [show wt_ln 22 = 60 from by decide]; omega)) (fun q hq => ?_)
  subst hq
  dsimp only
  refine wt_HH_gr (fun _ => ?_)
  have a2' : wt_ga s 22 w = wt_ga z 126 w := a2
  rw [a2']
  refine wt_HH_il (fun c => ?_) (fun c => ?_)
  · rw [if_pos c]
    exact wt_HH_some ⟨rfl, rfl, rfl⟩
  · rw [if_neg c]
    have c' := wt_ncle c
    have b2' : (wt_ga z 126 w).toInt ≤ 9 := by rw [← a2']; exact b2.2
    have ei := wt_i1 (c := b.2.1) (by omega)
    obtain ⟨l1, l2, l3⟩ := e2 (Int32.toNatClampNeg b.2.1) (by show ((Int32.toNatClampNeg b.2.1 : Nat) : Int) < (wt_ga s 22 w).toInt; rw [a2']; omega)
    have l1' : wt_ga s 21 (9 * w + Int32.toNatClampNeg b.2.1) = wt_ga z (193 + w) (Int32.toNatClampNeg b.2.1) := l1
    have l2' : 0 ≤ (wt_ga z (193 + w) (Int32.toNatClampNeg b.2.1)).toInt := by rw [← l1']; exact l2
    have l3' : (wt_ga z (193 + w) (Int32.toNatClampNeg b.2.1)).toInt ≤ 25 := by rw [← l1']; exact l3
    have el := wt_tnI l2'
    refine wt_HH_l (wh_letterAt n hn (t0 := 20) (by decide) hx (by omega) (k := Int32.toNatClampNeg b.2.1) (by omega) (by omega)) (fun q hq => ?_)
    subst hq
    dsimp only
    refine wt_HH_l (wh_look n hn (k := Int32.toNatClampNeg (wt_ga z (193 + w) (Int32.toNatClampNeg b.2.1))) (by show (wt_ga s 21 (9 * w + Int32.toNatClampNeg b.2.1)).toInt = _; rw [l1']; omega) (by rw [show wt_ln 9 = 26 from by decide]; omega)) (fun q hq => ?_)
    subst hq
    refine wt_HH_gr (fun _ => wt_HH_gr (fun _ => wt_HH_gr (fun _ => ?_)))
    refine hK _ _ ⟨?_, rfl, rfl, rfl, by show 0 ≤ (b.2.1 + (1 : Int32)).toInt; omega⟩
    show b.1 + wt_ga s 9 (Int32.toNatClampNeg (wt_ga z (193 + w) (Int32.toNatClampNeg b.2.1))) = b.1 + wt_ga z 115 (Int32.toNatClampNeg (wt_ga z (193 + w) (Int32.toNatClampNeg b.2.1)))
    rw [pr _ (by omega)]
theorem wr_word (n : Nat) (hn : 4294967297 < n) {x1 x2 : Int32} {s z : wt_St} (v : wt_IV z) (rl : wu_RL s z) : wt_HH (wp_ap_word n x1 x2 s) (wp_md_word n x1 x2 z) (fun q y => (q.1 = 2 ∧ wt_gf y.2 108 0 = 1) ∨ (q.1 = 1 ∧ wt_gf y.2 108 0 = 2) ∨ (q.1 = 0 ∧ wt_gf y.2 108 0 = 0 ∧ q.2.1 = y.1)) := by
  have k0 : (0 : Int32).toInt = 0 := by decide
  have k4 : (4 : Int32).toInt = 4 := by decide
  unfold wp_ap_word wp_md_word
  obtain ⟨z0, ε0⟩ : ∃ o : wt_St, o = wt_sf z 108 0 (0 : Int32) := ⟨_, rfl⟩
  rw [← ε0]
  have g0 := wt_fr_sf ε0
  have t0 : wt_gf z0 108 0 = 0 := wt_v_sf ε0
  have r0 : wt_RI z0 := wt_RI_fno v.1 ε0 (Or.inr (by decide +kernel))
  obtain ⟨-, -, to, lc, tx, sc, -⟩ := wu_RL_z0 rl v.1 g0
  have sk := wu_SK_of lc sc
  have hz : 0 ≤ (wt_gf z0 108 28).toInt ∧ (wt_gf z0 108 28).toInt ≤ 60 := wt_Rf6 r0
  obtain ⟨W, G, ⟨w1, w2, w3⟩, -, tt, -⟩ := to
  refine wr_gW n (wp_ap_word_B16 n x1 x2) (wp_md_word_B19 n x1 x2) (w1.trans w2.symm) hz (wr_mb1 n t0 (by decide) (Or.inl ⟨rfl, wt_v_sf rfl⟩)) (fun hx0 hx1 => wr_mb0 n t0 ?_)
  dsimp only
  have hx := (wt_tnI hx0).symm
  obtain ⟨w, hw⟩ : ∃ w : Nat, w = Int32.toNatClampNeg x1 := ⟨_, rfl⟩
  rw [← hw] at hx
  have hwW : w < W := by omega
  obtain ⟨a2, a3, a4, -⟩ := tt w hwW
  refine wt_HH_r (wh_in n) (fun y2 h2 => ?_)
  obtain ⟨e2, b2⟩ := h2
  rw [e2]
  rcases b2 with ⟨d1, d2⟩ | ⟨d1, d2, d3⟩
  · have no : ∀ k : Int32, 0 ≤ k.toInt → k.toInt ≤ 4 → ¬ x2 = k := fun k h0 h4 h => by rw [h] at d2; omega
    rw [if_pos (show y2.1 = 0 from d1), if_neg (no 0 (by decide) (by decide)), if_neg (no 1 (by decide) (by decide)), if_neg (no 2 (by decide) (by decide)), if_neg (no 3 (by decide) (by decide)), if_neg (no 4 (by decide) (by decide))]
    exact wt_HH_rr (P' := fun y => wt_gf y.2 108 0 = 2) (wh_b1 n t0 (by decide) (wt_v_sf rfl)) (fun y hy => wt_H_some (Or.inr (Or.inl ⟨rfl, hy⟩)))
  · rw [if_neg (show ¬ y2.1 = 0 by rw [d1]; decide)]
    refine wr_b0 n t0 ?_
    dsimp only
    rw [← hw]
    have A : ∀ (w : Int32) (y : Int32 × wt_St), w = y.1 → y.2 = z0 → ((0 : Nat) = 2 ∧ wt_gf y.2 108 0 = 1) ∨ ((0 : Nat) = 1 ∧ wt_gf y.2 108 0 = 2) ∨ ((0 : Nat) = 0 ∧ wt_gf y.2 108 0 = 0 ∧ w = y.1) := fun w y h1 h2 => Or.inr (Or.inr ⟨rfl, by rw [h2]; exact t0, h1⟩)
    refine wt_HH_il (fun c => ?_) (fun c => ?_)
    · rw [if_pos c]
      refine wt_HH_l (wh_look n hn (k := w) hx (by rw [show wt_ln 22 = 60 from by decide]; omega)) (fun q hq => ?_)
      subst hq
      exact wt_HH_gr (fun _ => wt_HH_some (A _ _ a2 rfl))
    rw [if_neg c]
    refine wt_HH_il (fun c1 => ?_) (fun c1 => ?_)
    · rw [if_pos c1]
      refine wt_HH_l (wh_look n hn (k := w) hx (by rw [show wt_ln 23 = 60 from by decide]; omega)) (fun q hq => ?_)
      subst hq
      exact wt_HH_gr (fun _ => wt_HH_some (A _ _ a3 rfl))
    rw [if_neg c1]
    refine wt_HH_il (fun c2 => ?_) (fun c2 => ?_)
    · rw [if_pos c2]
      refine wt_HH_l (wh_look n hn (k := w) hx (by rw [show wt_ln 24 = 60 from by decide]; omega)) (fun q hq => ?_)
      subst hq
      exact wt_HH_gr (fun _ => wt_HH_some (A _ _ a4 rfl))
    rw [if_neg c2]
    refine wt_HH_il (fun c3 => ?_) (fun c3 => ?_)
    · rw [if_pos c3]
      exact wt_HH_b (wr_priceW n hn tt w3 lc.2.2.1 hx hwW) (fun a b h => wt_HH_some (A _ _ h.1 h.2.2))
    rw [if_neg c3]
    refine wt_HH_il (fun c4 => ?_) (fun c4 => ?_)
    · exact wr_canW n hn (by decide) (by decide) (by decide) (by decide) (by decide) (by decide) r0 sk tt w3 hx hwW (fun q y e _ fy _ => wt_HH_some (Or.inr (Or.inr ⟨rfl, by
        show wt_gf y.2 108 0 = 0
        rw [fy.1 108 0 (fun h => h)]
        exact t0, e⟩)))
    · have n0 : ∀ k : Int32, ¬ x2 = k → x2.toInt ≠ k.toInt := fun k h e => h (wt_eqI e)
      have m0 := n0 0 c
      have m1 := n0 1 c1
      have m2 := n0 2 c2
      have m3 := n0 3 c3
      have m4 := n0 4 c4
      have k1 : (1 : Int32).toInt = 1 := by decide
      have k2 : (2 : Int32).toInt = 2 := by decide
      have k3 : (3 : Int32).toInt = 3 := by decide
      omega
end WTQ7
