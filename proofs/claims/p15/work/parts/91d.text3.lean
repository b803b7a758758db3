theorem wt_HH_lt2 {β : Type} {x : Option (Int32 × wt_St)} {y : Option β} {P : Int32 × wt_St → β → Prop} {Q : Nat × Int32 × wt_St → β → Prop} {f g : wt_St → Int32} (h : wt_HH x y P) (k : ∀ a b, P a b → (a.1 = 0 → Q (0, f a.2, a.2) b) ∧ (¬ a.1 = 0 → Q (0, g a.2, a.2) b)) : wt_HH (x.bind fun q5 => if q5.1 = 0 then some ((0 : Nat), f q5.2, q5.2) else some ((0 : Nat), g q5.2, q5.2)) y Q := by
  cases x with
  | none => exact wt_HH_nl
  | some a =>
    intro u v e e'
    have e2 : (if a.1 = 0 then some ((0 : Nat), f a.2, a.2) else some ((0 : Nat), g a.2, a.2)) = some u := e
    have K := k a v (h a v rfl e')
    by_cases ha : a.1 = 0
    · rw [if_pos ha] at e2
      cases e2
      exact K.1 ha
    · rw [if_neg ha] at e2
      cases e2
      exact K.2 ha
set_option maxRecDepth 100000 in
set_option maxHeartbeats 8000000 in
/-- text on both sides: both refuse, or both answer alike, and the texts stand alike -/
theorem wr_text (n : Nat) (hn : 4294967297 < n) {x1 : Int32} {s z : wt_St} (tb : wt_TB s z) (rz : wt_RI z) (to : wt_TO s z) (tx : wu_TX s z) : wt_HH (wp_ap_text n x1 s) (wp_md_text n x1 z) (fun q y => (q.1 = 1 ∧ wt_gf y.2 108 0 = 1 ∧ q.2.2 = s ∧ wt_fr (fun i k => i = 108 ∧ k = 0) (fun _ => False) z y.2) ∨ (q.1 = 0 ∧ wt_gf y.2 108 0 = 0 ∧ q.2.1 = y.1 ∧ wt_gf q.2.2 1 7 = wt_gf y.2 108 3 ∧ wu_TX q.2.2 y.2)) := by
  have k0 : (0 : Int32).toInt = 0 := by decide
  have k1 : (1 : Int32).toInt = 1 := by decide
  have k8 : (8 : Int32).toInt = 8 := by decide
  have k10 : (10 : Int32).toInt = 10 := by decide
  have k200 : (200 : Int32).toInt = 200 := by decide
  have hz : 0 ≤ (wt_gf z 108 1).toInt ∧ (wt_gf z 108 1).toInt ≤ 500 := wt_R_gf rz 0 rfl
  have hz39 : 0 ≤ (wt_gf z 108 39).toInt ∧ (wt_gf z 108 39).toInt ≤ 8 := wt_R_gf rz 7 rfl
  unfold wp_md_text
  obtain ⟨z0, ε0⟩ : ∃ o : wt_St, o = wt_sf z 108 0 (0 : Int32) := ⟨_, rfl⟩
  rw [← ε0]
  have g0 := wt_fr_sf ε0
  have rz0 := wt_RI_fno rz ε0 (Or.inr (by decide))
  have e1 : wt_gf z0 108 1 = wt_gf z 108 1 := g0.1 108 1 (by (try dsimp only); omega)
  have t0 : wt_gf z0 108 0 = 0 := wt_v_sf ε0
  rw [e1]
  refine wt_HH_r (wh_in n) (fun q1 h1 => ?_)
  obtain ⟨h1a, h1b⟩ := h1
  rw [h1a]
  have BAD : wt_HH (wp_ap_text_B27 n x1 (1 : Int32) s) (wp_md_text_B30 n x1 (1 : Int32) z0) (fun q y => (q.1 = 1 ∧ wt_gf y.2 108 0 = 1 ∧ q.2.2 = s ∧ wt_fr (fun i k => i = 108 ∧ k = 0) (fun _ => False) z y.2) ∨ (q.1 = 0 ∧ wt_gf y.2 108 0 = 0 ∧ q.2.1 = y.1 ∧ wt_gf q.2.2 1 7 = wt_gf y.2 108 3 ∧ wu_TX q.2.2 y.2)) := by
    unfold wp_ap_text_B27 wp_md_text_B30
    refine wt_HH_l (wh_refuse1 n) (fun q hq => ?_)
    subst hq
    dsimp only
    rw [if_neg (by decide)]
    refine wt_HH_r (wh_bad1 n t0 (by decide)) (fun y hy => ?_)
    subst hy
    dsimp only
    rw [if_neg (by decide)]
    exact wt_HH_some (Or.inl ⟨rfl, wt_v_sf rfl, rfl, wt_fr.tr g0 (wt_fr_sf rfl) (fun i k h => h) (fun i h => h)⟩)
  have GOOD : 0 ≤ x1.toInt → x1.toInt ≤ (wt_gf z 108 1).toInt → wt_HH (wp_ap_text_B27 n x1 (0 : Int32) s) (wp_md_text_B30 n x1 (0 : Int32) z0) (fun q y => (q.1 = 1 ∧ wt_gf y.2 108 0 = 1 ∧ q.2.2 = s ∧ wt_fr (fun i k => i = 108 ∧ k = 0) (fun _ => False) z y.2) ∨ (q.1 = 0 ∧ wt_gf y.2 108 0 = 0 ∧ q.2.1 = y.1 ∧ wt_gf q.2.2 1 7 = wt_gf y.2 108 3 ∧ wu_TX q.2.2 y.2)) := by
    intro hx0 hx1
    have en := wt_tnI hx0
    unfold wp_ap_text_B27 wp_md_text_B30
    refine wt_HH_l (wh_refuse0 n) (fun q hq => ?_)
    subst hq
    dsimp only
    rw [if_pos rfl]
    refine wt_HH_r (wh_bad0 n t0) (fun y hy => ?_)
    subst hy
    dsimp only
    rw [if_pos rfl]
    refine wt_HH_l (wh_begin n (β := fun j => wt_ga s 2 j) hx0 (by omega) (fun _ _ => rfl)) (fun s6 hs6 => ?_)
    obtain ⟨tv, e17, -, -, fb⟩ := hs6
    refine wt_HH_r ((wh_starts n (β := fun j => wt_ga s 2 j) (z0 := z0) hx0 (by omega) (fun j hj => by rw [g0.2 109 (fun h => h)]; exact (tb.1 j hj).symm)).and (wq_md_starts n hn x1 z0 rz0 hx0 (by omega)).h) (fun z7 hz7 => ?_)
    obtain ⟨⟨j, rj, rv7, h5, h6, h7, g7⟩, -, rz7, -⟩ := hz7
    obtain ⟨z8, ε8⟩ : ∃ o : wt_St, o = wt_sf z7 108 3 (-1 : Int32) := ⟨_, rfl⟩
    rw [← ε8]
    have g8 := wt_fr_sf ε8
    have rz8 := wt_RI_fno rz7 ε8 (Or.inr (by decide))
    have FZ : wt_fr (fun i k => i = 108 ∧ k < 8) (fun _ => False) z z8 := (wt_fr.tr (wt_frw g0 (fun i k h => by (try dsimp only at h); omega) (fun i h => h)) g7 (fun i k h => by (try dsimp only at h); omega) (fun i h => h)).sf ε8 (by first | decide | ((try dsimp only); omega))
    have e34 : wt_gf s6 34 4 = wt_gf s 34 4 := fb.1 34 4 (by decide)
    have e39 : wt_gf z8 108 39 = wt_gf z 108 39 := FZ.1 108 39 (by decide)
    have hb0 : wt_gf z8 108 0 = 0 := by rw [g8.1 108 0 (by decide), g7.1 108 0 (by (try dsimp only); omega)]; exact t0
    have tx8 : wu_TX s6 z8 := wu_TX_fr tx rz fb FZ (by decide) (fun i p q h => h) ⟨by decide, by decide⟩ (fun i _ h => h)
    have to8 : wt_TO s6 z8 := wt_TO_fr to fb FZ ⟨by decide, by decide⟩ (fun i _ _ h => h) ⟨by decide, by decide⟩ (fun i _ h => h)
    have s34 := wt_ceq tx.1
    rw [e34, e39]
    by_cases h8 : (wt_gf z 108 39).toInt = 8
    · rw [if_neg (fun h => by have := wt_clt h; omega), if_pos (wt_eqI (by omega))]
      refine wt_HH_some (Or.inr ⟨rfl, hb0, rfl, ?_, tx8⟩)
      show wt_gf s6 1 7 = wt_gf z8 108 3
      rw [wt_v_sf ε8, e17]
    · rw [if_pos (Int32.lt_iff_toInt_lt.mpr (by omega)), if_neg (fun h => by have := wt_ceq h; omega)]
      have hT := wt_tnI hz39.1
      unfold wp_tx_fill
      have R := wr_textLoop n n n hn (T := Int32.toNatClampNeg (wt_gf z 108 39)) rz8 tx8 tv rj (wt_rv_fr rv7 g8 (fun h => h) (by decide) (by decide)) ((g8.1 108 5 (by decide)).trans h5) ⟨by rw [e34]; omega, by rw [e39]; omega, by omega, to8, fun j hj => absurd hj (by omega), by rw [e17, g8.1 108 6 (by decide), h6], wt_fr.rf, fun _ _ => rfl, wt_fr.rf⟩
      refine wt_HH_lt2 (f := fun σ => (wt_gf σ 1 6) - (10 : Int32)) (g := fun σ => (wt_gf σ 34 4) - (1 : Int32)) R (fun a b hab => ?_)
      obtain ⟨a1, a2, a3, a4⟩ := hab
      refine ⟨fun ha => Or.inr ⟨rfl, a2.trans hb0, ?_, a1, a3⟩, fun ha => Or.inr ⟨rfl, a2.trans hb0, ?_, a1, a3⟩⟩
      · rcases a4 with ⟨-, f, f1, f2, f3, f4⟩ | ⟨c, -⟩
        · have es := wt_subE (x := wt_gf a.2 1 6) (y := (10 : Int32)) (by omega) (by omega)
          exact wt_eqI (by (try dsimp only); omega)
        · exact absurd (ha.symm.trans c) (by decide)
      · rcases a4 with ⟨c, -⟩ | ⟨-, c1, c2⟩
        · exact absurd c ha
        · have es := wt_subE (x := wt_gf a.2 34 4) (y := (1 : Int32)) (by omega) (by omega)
          exact wt_eqI (by (try dsimp only); omega)
  unfold wp_ap_text wp_ap_text_B22 wp_md_text_B25
  have ts := wt_ceq tb.2
  rcases h1b with ⟨c1, c2⟩ | ⟨c1, c2, c3⟩
  · rw [if_pos c1]
    refine wt_HH_il (fun d => BAD) (fun d => ?_)
    have d' := wt_ncl d
    refine wt_HH_il (fun f => BAD) (fun f => ?_)
    have f' := wt_ncl f
    omega
  · rw [if_neg (show ¬ x1 < 0 from fun d => by have := wt_clt d; omega), if_neg (show ¬ wt_gf s 1 2 < x1 from fun d => by have := wt_clt d; omega), if_neg (show ¬ q1.1 = 0 from by rw [c1]; decide)]
    by_cases h200 : x1 ≤ (200 : Int32)
    · rw [if_pos h200, if_pos h200]
      exact GOOD (by omega) c3
    · rw [if_neg h200, if_neg h200]
      exact BAD
