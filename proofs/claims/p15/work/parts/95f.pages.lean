/-! pages: counted over all pieces, or over the list of the page -/
theorem wt_sum_upd {F : Nat → Int} {j : Nat} : ∀ (N : Nat), wt_sum F N = wt_sum (fun c => if c = j then 0 else F c) N + if j < N then F j else 0 := by
  intro N
  induction N with
  | zero => rfl
  | succ N ih =>
    show wt_sum F N + F N = wt_sum (fun c => if c = j then 0 else F c) N + (if N = j then 0 else F N) + if j < N + 1 then F j else 0
    by_cases h : N = j
    · subst h
      rw [if_pos rfl, if_pos (by omega)]
      rw [if_neg (by omega)] at ih
      omega
    · rw [if_neg h]
      by_cases h2 : j < N
      · rw [if_pos h2] at ih
        rw [if_pos (by omega)]
        omega
      · rw [if_neg h2] at ih
        rw [if_neg (by omega)]
        omega
theorem wu_cov {N : Nat} {f : Nat → Int} {p : Nat → Nat} : ∀ (K : Nat) (F : Nat → Int), (∀ k, k < K → p k < N) → (∀ k, k < K → ∀ k', k' < k → p k' ≠ p k) → (∀ k, k < K → F (p k) = f (p k)) → (∀ c, c < N → (∀ k, k < K → p k ≠ c) → F c = 0) → wt_sum F N = wt_sum (fun k => f (p k)) K := by
  intro K
  induction K with
  | zero =>
    intro F _ _ _ h4
    have : wt_sum F N = wt_sum (fun _ => 0) N := wt_sum_congr N (fun c hc => h4 c hc (fun k hk => absurd hk (by omega)))
    rw [this]
    have hb := wt_sum_bd (f := fun _ => (0 : Int)) (c := 0) N (fun k _ => ⟨Int.le_refl _, Int.le_refl _⟩)
    show wt_sum (fun _ => 0) N = 0
    omega
  | succ K ih =>
    intro F h1 h2 h3 h4
    have e := wt_sum_upd (F := F) (j := p K) N
    rw [if_pos (h1 K (by omega)), h3 K (by omega)] at e
    have i := ih (fun c => if c = p K then 0 else F c) (fun k hk => h1 k (by omega)) (fun k hk => h2 k (by omega)) (fun k hk => by
      show (if p k = p K then 0 else F (p k)) = f (p k)
      rw [if_neg (h2 K (by omega) k hk)]
      exact h3 k (by omega)) (fun c hc hn => by
      show (if c = p K then 0 else F c) = 0
      by_cases hq : c = p K
      · rw [if_pos hq]
      · rw [if_neg hq]
        refine h4 c hc (fun k hk => ?_)
        by_cases hk2 : k = K
        · rw [hk2]; exact fun h => hq h.symm
        · exact hn k (by omega))
    show wt_sum F N = wt_sum (fun k => f (p k)) K + f (p K)
    omega
/-- the class's place of a piece that the reference names -/
def wu_pp (c : Int32) : Nat := 12 * (Int32.toNatClampNeg c / 13) + Int32.toNatClampNeg c % 13
theorem wu_pp_of {c : Int32} {l i : Nat} (h : c.toInt = ((13 * l + i : Nat) : Int)) (hi : i < 13) : wu_pp c = 12 * l + i := by
  have e : Int32.toNatClampNeg c = 13 * l + i := wt_tnN h
  unfold wu_pp
  omega
theorem wu_pageSum {s z : wt_St} {g : Nat} (v : wt_IV z) (sc : wu_SC s z) (hg : g < 4) (st : (wt_ga z 275 g).toInt ≠ -1) (f : Nat → Int) : wt_sum (fun c => if (wt_ga s 41 c).toInt = (g : Int) then f c else 0) 312 = wt_sum (fun k => f (wu_pp (wt_ga z (278 + g) k))) (Int32.toNatClampNeg (wt_ga z 276 g)) := by
  obtain ⟨-, -, sp, sg⟩ := sc
  obtain ⟨-, g2⟩ := sg g hg
  obtain ⟨g3, g4⟩ := g2 st
  have hb : 0 ≤ (wt_ga z 276 g).toInt ∧ (wt_ga z 276 g).toInt ≤ 108 := wt_Ra13 v.1 276 (by decide) (by decide) g
  have eK := wt_tnI hb.1
  refine wu_cov (p := fun k => wu_pp (wt_ga z (278 + g) k)) _ _ (fun k hk => ?_) (fun k hk k' hk' h => ?_) (fun k hk => ?_) (fun c hc hn => ?_)
  · obtain ⟨l, i, l1, l2, l3, -⟩ := g3 k (by omega)
    have m := v.2.1 l
    show wu_pp (wt_ga z (278 + g) k) < 312
    rw [wu_pp_of l3 (by omega)]
    omega
  · obtain ⟨l, i, l1, l2, l3, -⟩ := g3 k (by omega)
    obtain ⟨l', i', m1, m2, m3, -⟩ := g3 k' (by omega)
    have m := v.2.1 l
    have m' := v.2.1 l'
    have h' : wu_pp (wt_ga z (278 + g) k') = wu_pp (wt_ga z (278 + g) k) := h
    rw [wu_pp_of l3 (by omega), wu_pp_of m3 (by omega)] at h'
    have e3 : (wt_ga z (278 + g) k').toInt = ((13 * l' + i' : Nat) : Int) := m3
    have e4 : (wt_ga z (278 + g) k).toInt = ((13 * l + i : Nat) : Int) := l3
    exact v.2.2.2.1 g hg k k' hk' (by omega) (wt_eqI (by omega))
  · obtain ⟨l, i, l1, l2, l3, l4, -⟩ := g3 k (by omega)
    have m := v.2.1 l
    show (if (wt_ga s 41 (wu_pp (wt_ga z (278 + g) k))).toInt = (g : Int) then f (wu_pp (wt_ga z (278 + g) k)) else 0) = f (wu_pp (wt_ga z (278 + g) k))
    rw [wu_pp_of l3 (by omega), if_pos]
    have e := ((sp l l1).1 i l2).2.1
    have e' : wt_ga s 41 (12 * l + i) = wt_ga z 124 (13 * l + i) := e
    rw [e']; exact l4
  · show (if (wt_ga s 41 c).toInt = (g : Int) then f c else 0) = 0
    rw [if_neg]
    intro hp
    have ec : c = 12 * (c / 12) + c % 12 := by omega
    have hl : c / 12 < 26 := by omega
    by_cases hi : ((c % 12 : Nat) : Int) < (wt_ga z 111 (c / 12)).toInt
    · obtain ⟨-, e, -⟩ := (sp (c / 12) hl).1 (c % 12) hi
      have e' : wt_ga s 41 (12 * (c / 12) + c % 12) = wt_ga z 124 (13 * (c / 12) + c % 12) := e
      rw [← ec] at e'
      obtain ⟨k, k1, k2⟩ := g4 (c / 12) (c % 12) hl hi (by rw [← e']; exact hp)
      exact hn k (by omega) (by show wu_pp (wt_ga z (278 + g) k) = c; rw [wu_pp_of k2 (by omega)]; omega)
    · have e := (sp (c / 12) hl).2 (c % 12) (by omega) (by omega)
      have e' : (wt_ga s 41 (12 * (c / 12) + c % 12)).toInt = -1 := e
      rw [← ec] at e'
      omega
theorem wh_piecesOn (n : Nat) (hn : 4294967297 < n) {x : Int32} {s : wt_St} : wt_H (wp_pg_piecesOn n x s) (fun q => q.2 = s ∧ q.1.toInt = wt_sum (fun c => if (wt_ga s 41 c).toInt = x.toInt then 1 else 0) 312) := by
  have k0 : (0 : Int32).toInt = 0 := by decide
  have k1 : (1 : Int32).toInt = 1 := by decide
  have k312 : (312 : Int32).toInt = 312 := by decide
  unfold wp_pg_piecesOn
  refine wt_H_it (fun t : Int32 × Int32 × wt_St => t.2.2 = s ∧ 0 ≤ t.2.1.toInt ∧ t.2.1.toInt ≤ 312 ∧ t.1.toInt = wt_sum (fun c => if (wt_ga s 41 c).toInt = x.toInt then 1 else 0) (Int32.toNatClampNeg t.2.1) ∧ 0 ≤ t.1.toInt ∧ t.1.toInt ≤ t.2.1.toInt) (fun K t I hK => ?_) n _ ⟨rfl, by show 0 ≤ ((0 : Int32)).toInt; omega, by show ((0 : Int32)).toInt ≤ 312; omega, by show ((0 : Int32)).toInt = wt_sum _ (Int32.toNatClampNeg (0 : Int32)); rw [wt_tn0]; exact k0, by show 0 ≤ ((0 : Int32)).toInt; omega, by show ((0 : Int32)).toInt ≤ ((0 : Int32)).toInt; omega⟩
  obtain ⟨i0, i1, i2, i3, i4, i5⟩ := I
  have et := wt_tnI i1
  unfold wp_pg_piecesOn_B4
  rw [i0]
  refine wt_H_if (fun c => ?_) (fun c => ?_)
  · have c' := wt_cle c
    have e : Int32.toNatClampNeg t.2.1 = 312 := by omega
    rw [e] at i3
    exact wt_H_some ⟨rfl, i3⟩
  · have c' := wt_ncle c
    have ei := wt_i1 (c := t.2.1) (by omega)
    have en : Int32.toNatClampNeg (t.2.1 + (1 : Int32)) = Int32.toNatClampNeg t.2.1 + 1 := by have := wt_tnI (x := t.2.1 + (1 : Int32)) (by omega); omega
    have B : ∀ y : Int32, y.toInt = (if (wt_ga s 41 (Int32.toNatClampNeg t.2.1)).toInt = x.toInt then 1 else 0) → wt_H (wp_pg_piecesOn_B32 n x t.2.1 K t.1 y s) (fun q => q.2 = s ∧ q.1.toInt = wt_sum (fun c => if (wt_ga s 41 c).toInt = x.toInt then 1 else 0) 312) := by
      intro y hy
      have hy2 : 0 ≤ y.toInt ∧ y.toInt ≤ 1 := by
        rw [hy]
        split <;> omega
      have ea := wt_addE (x := t.1) (y := y) (by omega) (by omega)
      unfold wp_pg_piecesOn_B32
      refine hK _ ⟨rfl, by show 0 ≤ (t.2.1 + (1 : Int32)).toInt; omega, by show (t.2.1 + (1 : Int32)).toInt ≤ 312; omega, ?_, by show 0 ≤ (t.1 + y).toInt; omega, by show (t.1 + y).toInt ≤ (t.2.1 + (1 : Int32)).toInt; omega⟩
      show (t.1 + y).toInt = wt_sum _ (Int32.toNatClampNeg (t.2.1 + (1 : Int32)))
      rw [en]
      show _ = wt_sum _ (Int32.toNatClampNeg t.2.1) + (if (wt_ga s 41 (Int32.toNatClampNeg t.2.1)).toInt = x.toInt then 1 else 0)
      omega
    refine wt_H_bh (wh_look n hn (k := Int32.toNatClampNeg t.2.1) (by omega) (by rw [show wt_ln 41 = 312 from by decide]; omega)) (fun q2 h2 => ?_)
    subst h2
    dsimp only
    refine wt_H_if (fun d => B _ ?_) (fun d => B _ ?_)
    · rw [if_pos (wt_ceq d), k1]
    · rw [if_neg (wt_nceq d), k0]
theorem wh_clearPage (n : Nat) (hn : 4294967297 < n) {x : Int32} {g : Nat} {s : wt_St} (hx : x.toInt = (g : Int)) (hg : g < 4) : wt_H (wp_st_clearPage n 39 x s) (fun q => wt_fr (fun _ _ => False) (fun i => i = 41 ∨ i = 43) s q ∧ wt_ga q 43 g = -1 ∧ (∀ j, j ≠ g → wt_ga q 43 j = wt_ga s 43 j) ∧ ∀ c, c < 312 → wt_ga q 41 c = if (wt_ga s 41 c).toInt = (g : Int) then -1 else wt_ga s 41 c) := by
  have k0 : (0 : Int32).toInt = 0 := by decide
  have k312 : (312 : Int32).toInt = 312 := by decide
  unfold wp_st_clearPage
  refine wt_H_it (fun t : Int32 × wt_St => 0 ≤ t.1.toInt ∧ wt_fr (fun _ _ => False) (fun i => i = 41) s t.2 ∧ (∀ c : Nat, (c : Int) < t.1.toInt → wt_ga t.2 41 c = if (wt_ga s 41 c).toInt = (g : Int) then -1 else wt_ga s 41 c) ∧ ∀ c : Nat, t.1.toInt ≤ (c : Int) → wt_ga t.2 41 c = wt_ga s 41 c) (fun K t I hK => ?_) n _ ⟨by show 0 ≤ ((0 : Int32)).toInt; omega, wt_fr.rf, fun k hk => absurd (show (k : Int) < ((0 : Int32)).toInt from hk) (by omega), fun _ _ => rfl⟩
  obtain ⟨i0, f, i1, i2⟩ := I
  have et := wt_tnI i0
  unfold wp_st_clearPage_B2 wp_st_clearPage_B28
  refine wt_H_if (fun c => ?_) (fun c => ?_)
  · have c' := wt_cle c
    refine wt_H_bh (wh_put n (k := g) hx (by rw [show wt_ln (39 + 4) = 4 from by decide]; exact hg)) (fun q2 ε => ?_)
    have f2 := wt_fr_sa ε
    refine wt_H_some ⟨(wt_frw f (fun i k h => h) (fun i h => Or.inl h)).sa ε (Or.inr rfl), wt_v_sa ε, fun j hj => ?_, fun c2 hc2 => ?_⟩
    · have e := wt_w_sa ε j hj
      rw [show wt_ga q2 43 j = wt_ga t.2 43 j from e]; exact f.2 43 (by decide) j
    · rw [f2.2 41 (by decide)]; exact i1 c2 (by omega)
  · have c' := wt_ncle c
    have ei := wt_i1 (c := t.1) (by omega)
    refine wt_H_gd (fun _ => ?_)
    have e0 := i2 (Int32.toNatClampNeg t.1) (by omega)
    have e0' : wt_ga t.2 (39 + 2) (Int32.toNatClampNeg t.1) = wt_ga s 41 (Int32.toNatClampNeg t.1) := e0
    rw [e0']
    refine wt_H_if (fun d => ?_) (fun d => ?_)
    · have d' := wt_ceq d
      refine wt_H_gd (fun _ => ?_)
      obtain ⟨s1, ε⟩ : ∃ o : wt_St, o = wt_sa t.2 (39 + 2) (Int32.toNatClampNeg t.1) (-1 : Int32) := ⟨_, rfl⟩
      rw [← ε]
      have ε' : s1 = wt_sa t.2 41 (Int32.toNatClampNeg t.1) (-1 : Int32) := ε
      refine hK _ ⟨by show 0 ≤ (t.1 + (1 : Int32)).toInt; omega, f.sa ε' rfl, fun c2 hc2 => ?_, fun c2 hc2 => ?_⟩
      · have hc2' : (c2 : Int) < (t.1 + (1 : Int32)).toInt := hc2
        show wt_ga s1 41 c2 = _
        by_cases hq : c2 = Int32.toNatClampNeg t.1
        · rw [hq, wt_v_sa ε', if_pos (by omega)]
        · rw [wt_w_sa ε' c2 hq]; exact i1 c2 (by omega)
      · have hc2' : (t.1 + (1 : Int32)).toInt ≤ (c2 : Int) := hc2
        show wt_ga s1 41 c2 = _
        rw [wt_w_sa ε' c2 (by omega)]; exact i2 c2 (by omega)
    · have d' := wt_nceq d
      refine hK _ ⟨by show 0 ≤ (t.1 + (1 : Int32)).toInt; omega, f, fun c2 hc2 => ?_, fun c2 hc2 => i2 c2 (by have hc2' : (t.1 + (1 : Int32)).toInt ≤ (c2 : Int) := hc2; omega)⟩
      have hc2' : (c2 : Int) < (t.1 + (1 : Int32)).toInt := hc2
      by_cases hq : c2 = Int32.toNatClampNeg t.1
      · rw [hq, if_neg (by omega)]; exact e0
      · exact i1 c2 (by omega)
theorem wh_isPage (n : Nat) {x : Int32} {z : wt_St} : wt_H (wp_md_isPage n x z) (fun q => q.2 = z ∧ ((q.1 = 1 ∧ (0 ≤ x.toInt ∧ x.toInt < 4) ∧ (wt_ga z 275 (Int32.toNatClampNeg x)).toInt ≠ -1) ∨ (q.1 = 0 ∧ ¬ ((0 ≤ x.toInt ∧ x.toInt < 4) ∧ (wt_ga z 275 (Int32.toNatClampNeg x)).toInt ≠ -1)))) := by
  have k0 : (0 : Int32).toInt = 0 := by decide
  have k3 : (3 : Int32).toInt = 3 := by decide
  unfold wp_md_isPage
  refine wt_H_bh (wh_in n) (fun q1 h1 => ?_)
  obtain ⟨a, b⟩ := h1
  rw [a]
  rcases b with ⟨c1, c2⟩ | ⟨c1, c2, c3⟩
  · rw [if_pos c1]
    exact wt_H_some ⟨rfl, Or.inr ⟨rfl, by omega⟩⟩
  · rw [if_neg (by rw [c1]; decide)]
    refine wt_H_gd (fun _ => ?_)
    refine wt_H_if (fun d => ?_) (fun d => ?_)
    · have d' := (wt_ceq d).trans wt_lm1
      exact wt_H_some ⟨rfl, Or.inr ⟨rfl, fun h => h.2 d'⟩⟩
    · have d' := wt_nceq d
      rw [wt_lm1] at d'
      exact wt_H_some ⟨rfl, Or.inl ⟨rfl, by omega, d'⟩⟩
set_option maxRecDepth 100000 in
set_option maxHeartbeats 8000000 in
theorem wr_apart (n : Nat) (hn : 4294967297 < n) {x1 : Int32} {s z : wt_St} (v : wt_IV z) (sc : wu_SC s z) : wt_HH (wp_ap_apart n x1 s) (wp_md_apart n x1 z) (fun q y => ((q.1 = 2 ∧ wt_gf y.2 108 0 = 1) ∨ (q.1 = 0 ∧ wt_gf y.2 108 0 = 0 ∧ q.2.1 = y.1)) ∧ wu_SC q.2.2 y.2) := by
  have k0 : (0 : Int32).toInt = 0 := by decide
  unfold wp_ap_apart wp_md_apart
  obtain ⟨z0, ε0⟩ : ∃ o : wt_St, o = wt_sf z 108 0 (0 : Int32) := ⟨_, rfl⟩
  rw [← ε0]
  have g0 := wt_fr_sf ε0
  have t0 : wt_gf z0 108 0 = 0 := wt_v_sf ε0
  have sc0 : ∀ z' : wt_St, wt_fr (fun i k => i = 108 ∧ k = 0) (fun _ => False) z z' → wu_SC s z' := fun z' g => wu_SC_fr sc (wt_fr.rf (F := fun _ _ => False) (A := fun _ => False)) g (fun _ _ h => h) (fun k hk => by (try dsimp only); omega) (fun _ _ _ h => h) (fun _ _ h => h)
  have scz := sc0 z0 g0
  refine wt_HH_l (wh_stands n hn) (fun q1 h1 => ?_)
  obtain ⟨a1, b1⟩ := h1
  rw [a1]
  refine wt_HH_r (wh_isPage n) (fun y1 h1' => ?_)
  obtain ⟨a2, b2⟩ := h1'
  rw [a2]
  rw [g0.2 275 (fun h => h)] at b2
  unfold wp_ap_apart_B16 wp_md_apart_B19
  rcases b1 with ⟨c1, c2, c3⟩ | ⟨c1, c2⟩
  · have et := wt_tnI c2.1
    have pg : wt_ga s 43 (Int32.toNatClampNeg x1) = wt_ga z 275 (Int32.toNatClampNeg x1) := (sc.2.2.2 _ (by omega)).1
    rcases b2 with ⟨d1, d2, d3⟩ | ⟨d1, d2⟩
    · rw [if_neg (by rw [c1]; decide), if_neg (by rw [d1]; decide)]
      refine wt_HH_l (wh_miss0 n) (fun q hq => ?_)
      subst hq
      dsimp only
      rw [if_pos rfl]
      refine wt_HH_r (wh_bad0 n t0) (fun y hy => ?_)
      subst hy
      dsimp only
      rw [if_pos rfl]
      refine wt_HH_l (wh_piecesOn n hn) (fun q4 h4 => ?_)
      obtain ⟨e4, n4⟩ := h4
      rw [e4]
      have P := wu_pageSum v sc (g := Int32.toNatClampNeg x1) (by omega) d3 (fun _ => 1)
      have hb : 0 ≤ (wt_ga z 276 (Int32.toNatClampNeg x1)).toInt ∧ (wt_ga z 276 (Int32.toNatClampNeg x1)).toInt ≤ 108 := wt_Ra13 v.1 276 (by decide) (by decide) _
      have eK := wt_tnI hb.1
      rw [et] at P
      have P2 : wt_sum (fun k => (1 : Int)) (Int32.toNatClampNeg (wt_ga z 276 (Int32.toNatClampNeg x1))) = ((Int32.toNatClampNeg (wt_ga z 276 (Int32.toNatClampNeg x1)) : Nat) : Int) := wt_sum_all _ (fun _ _ => rfl)
      have n4' : q4.1 = wt_ga z 276 (Int32.toNatClampNeg x1) := wt_eqI (by rw [n4, P]; omega)
      refine wt_HH_l (wh_clearPage n hn (g := Int32.toNatClampNeg x1) (by omega) (by omega)) (fun q5 h5 => ?_)
      obtain ⟨f5, u1, u2, u3⟩ := h5
      refine wt_HH_r (wh_takesApart n (g := Int32.toNatClampNeg x1) (by omega) (by omega)) (fun y5 g5 => ?_)
      obtain ⟨fy, w1, w2, w3, w4⟩ := g5
      refine wt_HH_gr (fun _ => ?_)
      have FY : wt_fr (fun i k => i = 108 ∧ k = 0) (fun i => i = 124 ∨ i = 275) z y5 := wt_fr.tr (wt_frw g0 (fun i k h => h) (fun i h => h.elim)) fy (fun i k h => h.elim) (fun i h => h)
      have e276 : ∀ j, wt_ga y5 276 j = wt_ga z 276 j := FY.2 276 (by decide)
      have em : wt_ga y5 111 = wt_ga z 111 := funext (FY.2 111 (by decide))
      have Z276 : ∀ j, wt_ga z0 276 j = wt_ga z 276 j := g0.2 276 (fun h => h)
      have Z278 : ∀ j, wt_ga z0 (278 + Int32.toNatClampNeg x1) j = wt_ga z (278 + Int32.toNatClampNeg x1) j := g0.2 _ (fun h => h)
      have Z124 : ∀ j, wt_ga z0 124 j = wt_ga z 124 j := g0.2 124 (fun h => h)
      have Z275 : ∀ j, wt_ga z0 275 j = wt_ga z 275 j := g0.2 275 (fun h => h)
      obtain ⟨g3, g4⟩ := (sc.2.2.2 (Int32.toNatClampNeg x1) (by omega)).2 d3
      -- where a piece lies now
      have ON : ∀ l i : Nat, l < 26 → (i : Int) < (wt_ga z 111 l).toInt → wt_ga y5 124 (13 * l + i) = if (wt_ga z 124 (13 * l + i)).toInt = ((Int32.toNatClampNeg x1 : Nat) : Int) then -1 else wt_ga z 124 (13 * l + i) := by
        intro l i hl hi
        by_cases ho : (wt_ga z 124 (13 * l + i)).toInt = ((Int32.toNatClampNeg x1 : Nat) : Int)
        · rw [if_pos ho]
          obtain ⟨k, k1, k2⟩ := g4 l i hl hi ho
          have := w3 k (by rw [Z276]; exact k1)
          rw [Z278, wt_tnN k2] at this
          exact this
        · rw [if_neg ho, w4 _ (fun k hk h => ?_), Z124]
          rw [Z276] at hk
          rw [Z278] at h
          obtain ⟨l', i', m1, m2, m3, m4, -⟩ := g3 k hk
          rw [wt_tnN m3] at h
          have mm := v.2.1 l
          have mm' := v.2.1 l'
          have hl' : l' = l := by omega
          have hi' : i' = i := by omega
          rw [hl', hi'] at m4
          exact ho m4
      refine wt_HH_some ⟨Or.inr ⟨rfl, (fy.1 108 0 (fun h => h)).trans t0, ?_⟩, ?_, ?_, fun l hl => ?_, fun g' hg' => ?_⟩
      · show q4.1 = wt_ga y5 276 (Int32.toNatClampNeg x1)
        rw [e276]; exact n4'
      · show wu_SH (wt_gf q5 39 9) (wt_gf y5 108 26)
        rw [f5.1 39 9 (fun h => h), FY.1 108 26 (by decide)]; exact wu_SC_SH sc
      · exact wu_SW_eq (wu_SC_SW sc) (by rw [FY.1 108 39 (by decide)]; exact Int.le_refl _) (fun i p q => f5.2 i (by (try dsimp only); omega)) (f5.1 39 8 (fun h => h)) (fun i p q => FY.2 i (by (try dsimp only); omega)) (FY.1 108 40 (by decide))
      · show (∀ i : Nat, (i : Int) < (wt_ga y5 111 l).toInt → wt_ga q5 40 (12 * l + i) = wt_ga y5 121 (13 * l + i) ∧ wt_ga q5 41 (12 * l + i) = wt_ga y5 124 (13 * l + i) ∧ ((wt_ga y5 124 (13 * l + i)).toInt = -1 ∨ ∃ g, g < 4 ∧ (wt_ga y5 124 (13 * l + i)).toInt = ((g : Nat) : Int) ∧ (wt_ga y5 275 g).toInt ≠ -1)) ∧ ∀ i : Nat, i < 12 → (wt_ga y5 111 l).toInt ≤ (i : Int) → (wt_ga q5 41 (12 * l + i)).toInt = -1
        rw [em]
        obtain ⟨p1, p2⟩ := sc.2.2.1 l hl
        have mm := v.2.1 l
        refine ⟨fun i hi => ?_, fun i hi hj => ?_⟩
        · obtain ⟨a1, a2, a3⟩ := p1 i hi
          have a1' : wt_ga s 40 (12 * l + i) = wt_ga z 121 (13 * l + i) := a1
          have a2' : wt_ga s 41 (12 * l + i) = wt_ga z 124 (13 * l + i) := a2
          rw [f5.2 40 (by decide), FY.2 121 (by decide), u3 _ (by omega), ON l i hl hi, a2']
          refine ⟨a1', rfl, ?_⟩
          by_cases ho : (wt_ga z 124 (13 * l + i)).toInt = ((Int32.toNatClampNeg x1 : Nat) : Int)
          · rw [if_pos ho]; exact Or.inl wt_lm1
          · rw [if_neg ho]
            rcases a3 with a3 | ⟨g', b1', b2', b3'⟩
            · exact Or.inl a3
            · refine Or.inr ⟨g', b1', b2', ?_⟩
              rw [w2 g' (fun h => ho (by rw [b2', h])), Z275]; exact b3'
        · have e := p2 i hi hj
          have e' : (wt_ga s 41 (12 * l + i)).toInt = -1 := e
          rw [u3 _ (by omega), if_neg (by omega)]; exact e'
      · show wt_ga q5 43 g' = wt_ga y5 275 g' ∧ ((wt_ga y5 275 g').toInt ≠ -1 → (∀ k : Nat, (k : Int) < (wt_ga y5 276 g').toInt → ∃ l i : Nat, l < 26 ∧ (i : Int) < (wt_ga y5 111 l).toInt ∧ (wt_ga y5 (278 + g') k).toInt = ((13 * l + i : Nat) : Int) ∧ (wt_ga y5 124 (13 * l + i)).toInt = (g' : Int) ∧ (wt_ga q5 42 (12 * l + i)).toInt = wt_ct (fun k' => (wt_ga y5 (278 + g') k').toInt / 13) (l : Int) k) ∧ ∀ l i : Nat, l < 26 → (i : Int) < (wt_ga y5 111 l).toInt → (wt_ga y5 124 (13 * l + i)).toInt = (g' : Int) → ∃ k : Nat, (k : Int) < (wt_ga y5 276 g').toInt ∧ (wt_ga y5 (278 + g') k).toInt = ((13 * l + i : Nat) : Int))
        by_cases hq : g' = Int32.toNatClampNeg x1
        · rw [hq, u1]
          exact ⟨wt_eqI (wt_lm1.trans w1.symm), fun h => absurd w1 h⟩
        · obtain ⟨p1, p2⟩ := sc.2.2.2 g' hg'
          have p1' : wt_ga s 43 g' = wt_ga z 275 g' := p1
          have Y278 : ∀ k, wt_ga y5 (278 + g') k = wt_ga z (278 + g') k := FY.2 (278 + g') (by (try dsimp only); omega)
          rw [u2 g' hq, w2 g' hq, Z275, e276, em]
          refine ⟨p1', fun hne => ⟨fun k hk => ?_, fun l i hl hi ho => ?_⟩⟩
          · obtain ⟨l, i, u1', u2', u3', u4', u5'⟩ := (p2 hne).1 k hk
            have u4'' : (wt_ga z 124 (13 * l + i)).toInt = (g' : Int) := u4'
            refine ⟨l, i, u1', u2', by rw [Y278]; exact u3', ?_, ?_⟩
            · rw [ON l i u1' u2', if_neg (fun h => hq (by omega))]; exact u4''
            · rw [f5.2 42 (by decide)]
              have u5'' : (wt_ga s 42 (12 * l + i)).toInt = wt_ct (fun k' => (wt_ga z (278 + g') k').toInt / 13) (l : Int) k := u5'
              rw [u5'']
              exact (wt_ct_congr k (fun k' hk' => by show (wt_ga z (278 + g') k').toInt / 13 = (wt_ga y5 (278 + g') k').toInt / 13; rw [Y278]))
          · rw [ON l i hl hi] at ho
            by_cases ho2 : (wt_ga z 124 (13 * l + i)).toInt = ((Int32.toNatClampNeg x1 : Nat) : Int)
            · rw [if_pos ho2, wt_lm1] at ho
              omega
            · rw [if_neg ho2] at ho
              obtain ⟨k, w1', w2'⟩ := (p2 hne).2 l i hl hi ho
              exact ⟨k, w1', by rw [Y278]; exact w2'⟩
    · exact absurd ⟨c2, by rw [← pg]; exact c3⟩ d2
  · rcases b2 with ⟨d1, d2, d3⟩ | ⟨d1, -⟩
    · exfalso
      have pg : wt_ga s 43 (Int32.toNatClampNeg x1) = wt_ga z 275 (Int32.toNatClampNeg x1) := (sc.2.2.2 _ (by have := wt_tnI d2.1; omega)).1
      exact c2 ⟨d2, by rw [pg]; exact d3⟩
    · rw [if_pos c1, if_pos d1]
      refine wt_HH_l (wh_miss1 n) (fun q hq => ?_)
      subst hq
      dsimp only
      rw [if_neg (by decide)]
      refine wt_HH_r (wh_bad1 n t0 (by decide)) (fun y hy => ?_)
      subst hy
      dsimp only
      rw [if_neg (by decide)]
      exact wt_HH_some ⟨Or.inl ⟨rfl, wt_v_sf rfl⟩, sc0 _ (wt_fr.tr g0 (wt_fr_sf rfl) (fun i k h => h) (fun i h => h))⟩
