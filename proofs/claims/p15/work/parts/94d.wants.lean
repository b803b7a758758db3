theorem wu_SC_mk {s s' z z' : wt_St} (h : wu_SC s z) (hH : wu_SH (wt_gf s' 39 9) (wt_gf z' 108 26)) (hW : wu_SW (wt_gf z' 108 39).toInt (wt_ga s' 44) (wt_ga s' 45) (wt_ga s' 46) (wt_ga s' 47) (wt_gf s' 39 8) (fun k => wt_ga z' (264 + k)) (wt_gf z' 108 40)) (ea : ∀ i, 39 < i → i < 44 → ∀ j, wt_ga s' i j = wt_ga s i j) (ea' : ∀ i, i = 121 ∨ i = 124 ∨ i = 275 ∨ i = 276 ∨ (278 ≤ i ∧ i < 282) ∨ i = 111 → ∀ j, wt_ga z' i j = wt_ga z i j) : wu_SC s' z' := by
  have A : ∀ i, 39 < i → i < 44 → wt_ga s' i = wt_ga s i := fun i p q => funext (ea i p q)
  have A' : ∀ i, i = 121 ∨ i = 124 ∨ i = 275 ∨ i = 276 ∨ (278 ≤ i ∧ i < 282) ∨ i = 111 → wt_ga z' i = wt_ga z i := fun i hi => funext (ea' i hi)
  obtain ⟨-, -, h3, h4⟩ := h
  refine ⟨hH, hW, ?_, ?_⟩
  · rw [A' 111 (by omega), A (39 + 1) (by omega) (by omega), A (39 + 2) (by omega) (by omega), A' 121 (by omega), A' 124 (by omega), A' 275 (by omega)]; exact h3
  · rw [A' 111 (by omega), A (39 + 3) (by omega) (by omega), A (39 + 4) (by omega) (by omega), A' 124 (by omega), A' 275 (by omega), A' 276 (by omega)]
    intro g hg
    show wt_ga s (39 + 4) g = wt_ga z 275 g ∧ ((wt_ga z 275 g).toInt ≠ -1 → (∀ k : Nat, (k : Int) < (wt_ga z 276 g).toInt → ∃ l i : Nat, l < 26 ∧ (i : Int) < (wt_ga z 111 l).toInt ∧ (wt_ga z' (278 + g) k).toInt = ((13 * l + i : Nat) : Int) ∧ (wt_ga z 124 (13 * l + i)).toInt = (g : Int) ∧ (wt_ga s (39 + 3) (12 * l + i)).toInt = wt_ct (fun k' => (wt_ga z' (278 + g) k').toInt / 13) (l : Int) k) ∧ ∀ l i : Nat, l < 26 → (i : Int) < (wt_ga z 111 l).toInt → (wt_ga z 124 (13 * l + i)).toInt = (g : Int) → ∃ k : Nat, (k : Int) < (wt_ga z 276 g).toInt ∧ (wt_ga z' (278 + g) k).toInt = ((13 * l + i : Nat) : Int))
    rw [A' (278 + g) (by omega)]
    exact h4 g hg
theorem wu_SC_SW {s z : wt_St} (h : wu_SC s z) : wu_SW (wt_gf z 108 39).toInt (wt_ga s 44) (wt_ga s 45) (wt_ga s 46) (wt_ga s 47) (wt_gf s 39 8) (fun k => wt_ga z (264 + k)) (wt_gf z 108 40) := h.2.1
theorem wu_SC_SH {s z : wt_St} (h : wu_SC s z) : wu_SH (wt_gf s 39 9) (wt_gf z 108 26) := h.1
/-- the wants stand as they were -/
theorem wu_SW_eq {T T' : Int} {s s' z z' : wt_St} (h : wu_SW T (wt_ga s 44) (wt_ga s 45) (wt_ga s 46) (wt_ga s 47) (wt_gf s 39 8) (fun k => wt_ga z (264 + k)) (wt_gf z 108 40)) (hT : T ≤ T') (ea : ∀ i, 43 < i → i < 48 → ∀ j, wt_ga s' i j = wt_ga s i j) (e8 : wt_gf s' 39 8 = wt_gf s 39 8) (ea' : ∀ i, 264 ≤ i → i < 274 → ∀ j, wt_ga z' i j = wt_ga z i j) (e40 : wt_gf z' 108 40 = wt_gf z 108 40) : wu_SW T' (wt_ga s' 44) (wt_ga s' 45) (wt_ga s' 46) (wt_ga s' 47) (wt_gf s' 39 8) (fun k => wt_ga z' (264 + k)) (wt_gf z' 108 40) := by
  have A : ∀ i, 43 < i → i < 48 → wt_ga s' i = wt_ga s i := fun i p q => funext (ea i p q)
  rw [e8, e40, A 44 (by omega) (by omega), A 45 (by omega) (by omega), A 46 (by omega) (by omega), A 47 (by omega) (by omega)]
  refine ⟨h.1, h.2.1, fun k hk => ?_⟩
  obtain ⟨a, b, c⟩ := h.2.2 k hk
  have g := h.2.1
  refine ⟨?_, ⟨b.1, by omega⟩, c⟩
  show wt_ga s 44 k = wt_ga z' (264 + k) 0 ∧ wt_ga s 45 k = wt_ga z' (264 + k) 1 ∧ wt_ga s 46 k = wt_ga z' (264 + k) 2 ∧ wt_ga s 47 k = wt_ga z' (264 + k) 3
  rw [ea' _ (by omega) (by omega), ea' _ (by omega) (by omega), ea' _ (by omega) (by omega), ea' _ (by omega) (by omega)]
  exact a
set_option maxHeartbeats 4000000 in
theorem wr_habit (n : Nat) {x1 : Int32} {s z : wt_St} (sc : wu_SC s z) : wt_HH (wp_ap_habit n x1 s) (wp_md_habit n x1 z) (fun q y => ((q.1 = 1 ∧ wt_gf y.2 108 0 = 1) ∨ (q.1 = 0 ∧ wt_gf y.2 108 0 = 0 ∧ q.2.1 = y.1)) ∧ wu_SC q.2.2 y.2) := by
  have k0 : (0 : Int32).toInt = 0 := by decide
  have k1 : (1 : Int32).toInt = 1 := by decide
  have k2 : (2 : Int32).toInt = 2 := by decide
  unfold wp_md_habit
  obtain ⟨z0, ε0⟩ : ∃ o : wt_St, o = wt_sf z 108 0 (0 : Int32) := ⟨_, rfl⟩
  rw [← ε0]
  have g0 := wt_fr_sf ε0
  have t0 : wt_gf z0 108 0 = 0 := wt_v_sf ε0
  have sc0 : ∀ z' : wt_St, wt_fr (fun i k => i = 108 ∧ k = 0) (fun _ => False) z z' → wu_SC s z' := fun z' g => wu_SC_fr sc (wt_fr.rf (F := fun _ _ => False) (A := fun _ => False)) g (fun _ _ h => h) (fun k hk => by (try dsimp only); omega) (fun _ _ _ h => h) (fun _ _ h => h)
  refine wt_HH_r (wh_in n) (fun q1 h1 => ?_)
  obtain ⟨h1a, h1b⟩ := h1
  rw [h1a]
  have BAD : wt_HH (wp_ap_habit_B14 n x1 (1 : Int32) s) (wp_md_habit_B20 n x1 (1 : Int32) z0) (fun q y => ((q.1 = 1 ∧ wt_gf y.2 108 0 = 1) ∨ (q.1 = 0 ∧ wt_gf y.2 108 0 = 0 ∧ q.2.1 = y.1)) ∧ wu_SC q.2.2 y.2) := by
    unfold wp_ap_habit_B14 wp_md_habit_B20
    refine wt_HH_l (wh_refuse1 n) (fun q hq => ?_)
    subst hq
    dsimp only
    rw [if_neg (by decide)]
    refine wt_HH_r (wh_bad1 n t0 (by decide)) (fun y hy => ?_)
    subst hy
    dsimp only
    rw [if_neg (by decide)]
    exact wt_HH_some ⟨Or.inl ⟨rfl, wt_v_sf rfl⟩, sc0 _ (wt_fr.tr g0 (wt_fr_sf rfl) (fun i k h => h) (fun i h => h))⟩
  unfold wp_ap_habit wp_ap_habit_B9
  rcases h1b with ⟨c1, c2⟩ | ⟨c1, c2, c3⟩
  · rw [if_pos c1]
    refine wt_HH_il (fun _ => BAD) (fun d => wt_HH_il (fun f => ?_) (fun _ => BAD))
    have d' := wt_ncl d
    have f' := wt_clt f
    omega
  · rw [if_neg (show ¬ x1 < 0 from fun d => by have := wt_clt d; omega), if_pos (Int32.lt_iff_toInt_lt.mpr (by omega)), if_neg (by rw [c1]; decide)]
    unfold wp_ap_habit_B14 wp_md_habit_B20
    refine wt_HH_l (wh_refuse0 n) (fun q hq => ?_)
    subst hq
    dsimp only
    rw [if_pos rfl]
    refine wt_HH_r (wh_bad0 n t0) (fun y hy => ?_)
    subst hy
    dsimp only
    rw [if_pos rfl]
    obtain ⟨s1, δ1⟩ : ∃ o : wt_St, o = wt_sf s 39 9 x1 := ⟨_, rfl⟩
    rw [← δ1]
    obtain ⟨z1, ε1⟩ : ∃ o : wt_St, o = wt_sf z0 108 26 x1 := ⟨_, rfl⟩
    rw [← ε1]
    have d1 := wt_fr_sf δ1
    have g1 := wt_fr_sf ε1
    have GZ : wt_fr (fun i k => i = 108 ∧ (k = 0 ∨ k = 26)) (fun _ => False) z z1 := (wt_frw g0 (fun i k h => by (try dsimp only at h ⊢); omega) (fun i h => h)).sf ε1 (by first | decide | ((try dsimp only); omega))
    have e26 : wt_gf z0 108 26 = wt_gf z 108 26 := g0.1 108 26 (by decide)
    refine wt_HH_some ⟨Or.inr ⟨rfl, (g1.1 108 0 (by decide)).trans t0, ?_⟩, wu_SC_mk sc ⟨?_, ?_⟩ (wu_SW_eq (wu_SC_SW sc) (by rw [GZ.1 108 39 (by decide)]; exact Int.le_refl _) (fun i p q => d1.2 i (fun h => h)) (d1.1 39 8 (by decide)) (fun i p q => GZ.2 i (fun h => h)) (GZ.1 108 40 (by decide))) (fun i p q => d1.2 i (fun h => h)) (fun i hi => GZ.2 i (fun h => h))⟩
    · show wt_gf s 39 9 = wt_gf z0 108 26
      rw [e26]; exact (wu_SC_SH sc).1
    · rw [wt_v_sf δ1, wt_v_sf ε1]
    · rw [wt_v_sf δ1]; omega
theorem wr_forget (n : Nat) {s z : wt_St} (sc : wu_SC s z) : wt_HH (wp_ap_forget n s) (wp_md_forget n z) (fun q y => q.1 = y.1 ∧ wu_SC q.2 y.2) := by
  have k0 : (0 : Int32).toInt = 0 := by decide
  unfold wp_ap_forget wp_md_forget
  obtain ⟨z0, ε0⟩ : ∃ o : wt_St, o = wt_sf z 108 0 (0 : Int32) := ⟨_, rfl⟩
  rw [← ε0]
  have g0 := wt_fr_sf ε0
  obtain ⟨s1, δ1⟩ : ∃ o : wt_St, o = wt_sf s 39 8 (0 : Int32) := ⟨_, rfl⟩
  rw [← δ1]
  obtain ⟨z1, ε1⟩ : ∃ o : wt_St, o = wt_sf z0 108 40 (0 : Int32) := ⟨_, rfl⟩
  rw [← ε1]
  have d1 := wt_fr_sf δ1
  have GZ : wt_fr (fun i k => i = 108 ∧ (k = 0 ∨ k = 40)) (fun _ => False) z z1 := (wt_frw g0 (fun i k h => by (try dsimp only at h ⊢); omega) (fun i h => h)).sf ε1 (by first | decide | ((try dsimp only); omega))
  have e40 : wt_gf z0 108 40 = wt_gf z 108 40 := g0.1 108 40 (by decide)
  refine wt_HH_some ⟨?_, wu_SC_mk sc ?_ ⟨?_, ?_, fun k hk => ?_⟩ (fun i p q => d1.2 i (fun h => h)) (fun i hi => GZ.2 i (fun h => h))⟩
  · show wt_gf s 39 8 = wt_gf z0 108 40
    rw [e40]; exact (wu_SC_SW sc).1
  · rw [d1.1 39 9 (by decide), GZ.1 108 26 (by decide)]; exact wu_SC_SH sc
  · rw [wt_v_sf δ1, wt_v_sf ε1]
  · rw [wt_v_sf δ1]; omega
  · rw [wt_v_sf δ1] at hk
    omega
set_option maxHeartbeats 4000000 in
theorem wh_addWanted (n : Nat) {k : Nat} {x1 x2 x3 x4 : Int32} {s : wt_St} (hk : (wt_gf s 39 8).toInt = (k : Int)) (hk10 : k < 10) : wt_H (wp_st_addWanted n 39 x1 x2 x3 x4 s) (fun q => wt_fr (fun i k => i = 39 ∧ k = 8) (fun i => 43 < i ∧ i < 48) s q ∧ wt_gf q 39 8 = (wt_gf s 39 8) + (1 : Int32) ∧ (wt_ga q 44 k = x1 ∧ wt_ga q 45 k = x2 ∧ wt_ga q 46 k = x3 ∧ wt_ga q 47 k = x4) ∧ ∀ i, 43 < i → i < 48 → ∀ j, j ≠ k → wt_ga q i j = wt_ga s i j) := by
  unfold wp_st_addWanted
  refine wt_H_bh (wh_put n (k := k) hk (by rw [show wt_ln (39 + 5) = 10 from by decide]; exact hk10)) (fun q1 ε1 => ?_)
  have f1 := wt_fr_sa ε1
  have e1 : wt_gf q1 39 8 = wt_gf s 39 8 := f1.1 39 8 (fun h => h)
  rw [e1]
  refine wt_H_bh (wh_put n (k := k) hk (by rw [show wt_ln (39 + 6) = 10 from by decide]; exact hk10)) (fun q2 ε2 => ?_)
  have f2 := wt_fr_sa ε2
  have e2 : wt_gf q2 39 8 = wt_gf s 39 8 := (f2.1 39 8 (fun h => h)).trans e1
  rw [e2]
  refine wt_H_bh (wh_put n (k := k) hk (by rw [show wt_ln (39 + 7) = 10 from by decide]; exact hk10)) (fun q3 ε3 => ?_)
  have f3 := wt_fr_sa ε3
  have e3 : wt_gf q3 39 8 = wt_gf s 39 8 := (f3.1 39 8 (fun h => h)).trans e2
  rw [e3]
  refine wt_H_bh (wh_put n (k := k) hk (by rw [show wt_ln (39 + 8) = 10 from by decide]; exact hk10)) (fun q4 ε4 => ?_)
  have f4 := wt_fr_sa ε4
  have e4 : wt_gf q4 39 8 = wt_gf s 39 8 := (f4.1 39 8 (fun h => h)).trans e3
  rw [e4]
  obtain ⟨q5, ε5⟩ : ∃ o : wt_St, o = wt_sf q4 39 8 ((wt_gf s 39 8) + (1 : Int32)) := ⟨_, rfl⟩
  rw [← ε5]
  have f5 := wt_fr_sf ε5
  refine wt_H_some ⟨((((wt_fr.rf.sa ε1 (by first | decide | ((try dsimp only); omega))).sa ε2 (by first | decide | ((try dsimp only); omega))).sa ε3 (by first | decide | ((try dsimp only); omega))).sa ε4 (by first | decide | ((try dsimp only); omega))).sf ε5 ⟨rfl, rfl⟩, wt_v_sf ε5, ⟨?_, ?_, ?_, ?_⟩, fun i p q j hj => ?_⟩
  · rw [f5.2 44 (fun h => h), f4.2 44 (by decide), f3.2 44 (by decide), f2.2 44 (by decide)]; exact wt_v_sa ε1
  · rw [f5.2 45 (fun h => h), f4.2 45 (by decide), f3.2 45 (by decide)]; exact wt_v_sa ε2
  · rw [f5.2 46 (fun h => h), f4.2 46 (by decide)]; exact wt_v_sa ε3
  · rw [f5.2 47 (fun h => h)]; exact wt_v_sa ε4
  · rcases (show i = 44 ∨ i = 45 ∨ i = 46 ∨ i = 47 by omega) with h | h | h | h <;> subst h
    · rw [f5.2 44 (fun h => h), f4.2 44 (by decide), f3.2 44 (by decide), f2.2 44 (by decide)]; exact wt_w_sa ε1 j hj
    · rw [f5.2 45 (fun h => h), f4.2 45 (by decide), f3.2 45 (by decide), ← f1.2 45 (by decide)]; exact wt_w_sa ε2 j hj
    · rw [f5.2 46 (fun h => h), f4.2 46 (by decide), ← f1.2 46 (by decide), ← f2.2 46 (by decide)]; exact wt_w_sa ε3 j hj
    · rw [f5.2 47 (fun h => h), ← f1.2 47 (by decide), ← f2.2 47 (by decide), ← f3.2 47 (by decide)]; exact wt_w_sa ε4 j hj
set_option maxRecDepth 100000 in
set_option maxHeartbeats 8000000 in
theorem wr_want (n : Nat) {x1 x2 x3 x4 : Int32} {s z : wt_St} (rz : wt_RI z) (e34 : wt_gf s 34 4 = wt_gf z 108 39) (sc : wu_SC s z) : wt_HH (wp_ap_want n x1 x2 x3 x4 s) (wp_md_want n x1 x2 x3 x4 z) (fun q y => ((q.1 = 2 ∧ wt_gf y.2 108 0 = 1) ∨ (q.1 = 1 ∧ wt_gf y.2 108 0 = 2) ∨ (q.1 = 0 ∧ wt_gf y.2 108 0 = 0 ∧ q.2.1 = y.1)) ∧ wu_SC q.2.2 y.2) := by
  have k0 : (0 : Int32).toInt = 0 := by decide
  have k1 : (1 : Int32).toInt = 1 := by decide
  have k10 : (10 : Int32).toInt = 10 := by decide
  have k99 : (99 : Int32).toInt = 99 := by decide
  have k100 : (100 : Int32).toInt = 100 := by decide
  have k999 : (999 : Int32).toInt = 999 := by decide
  have hz : 0 ≤ (wt_gf z 108 39).toInt ∧ (wt_gf z 108 39).toInt ≤ 8 := wt_Rf7 rz
  have eT := wt_ceq e34
  have sw := wu_SC_SW sc
  have swn := wt_ceq sw.1
  have sw10 := sw.2.1
  -- the class
  have C : wt_H (wp_ap_want n x1 x2 x3 x4 s) (fun q => ((x1.toInt < 0 ∨ (wt_gf z 108 39).toInt ≤ x1.toInt) ∧ q.1 = 2 ∧ q.2.2 = s) ∨ ((0 ≤ x1.toInt ∧ x1.toInt < (wt_gf z 108 39).toInt) ∧ (((x2.toInt < 1 ∨ 400 < x2.toInt ∨ x3.toInt < 0 ∨ 99 < x3.toInt ∨ x4.toInt < 1 ∨ 999 < x4.toInt) ∧ q.1 = 1 ∧ q.2.2 = s) ∨ ((1 ≤ x2.toInt ∧ x2.toInt ≤ 400 ∧ 0 ≤ x3.toInt ∧ x3.toInt ≤ 99 ∧ 1 ≤ x4.toInt ∧ x4.toInt ≤ 999) ∧ (((wt_gf s 39 8).toInt = 10 ∧ q = (0, (-1 : Int32), s)) ∨ ((wt_gf s 39 8).toInt < 10 ∧ q.1 = 0 ∧ q.2.1 = (wt_gf s 39 8) + (1 : Int32) ∧ wt_fr (fun i k => i = 39 ∧ k = 8) (fun i => 43 < i ∧ i < 48) s q.2.2 ∧ wt_gf q.2.2 39 8 = (wt_gf s 39 8) + (1 : Int32) ∧ (wt_ga q.2.2 44 (Int32.toNatClampNeg (wt_gf s 39 8)) = x1 ∧ wt_ga q.2.2 45 (Int32.toNatClampNeg (wt_gf s 39 8)) = x2 ∧ wt_ga q.2.2 46 (Int32.toNatClampNeg (wt_gf s 39 8)) = x3 ∧ wt_ga q.2.2 47 (Int32.toNatClampNeg (wt_gf s 39 8)) = x4) ∧ ∀ i, 43 < i → i < 48 → ∀ j, j ≠ Int32.toNatClampNeg (wt_gf s 39 8) → wt_ga q.2.2 i j = wt_ga s i j)))))) := by
    unfold wp_ap_want
    refine wt_H_bh (wh_txhas n) (fun q1 h1 => ?_)
    obtain ⟨a1, b1⟩ := h1
    rw [a1]
    unfold wp_ap_want_B16
    rcases b1 with ⟨c1, c2, c3⟩ | ⟨c1, c2⟩
    · rw [if_neg (by rw [c1]; decide)]
      refine wt_H_bh (wh_miss0 n) (fun q hq => ?_)
      subst hq
      dsimp only
      rw [if_pos rfl]
      refine wt_H_bh (wh_copies n) (fun q4 h4 => ?_)
      rcases h4 with ⟨h4, d1, d2⟩ | ⟨h4, d1⟩
      · subst h4
        dsimp only
        rw [if_pos rfl]
        have R1 : ∀ (B : Nat × Int32 × wt_St → Option (Nat × Int32 × wt_St)), (x2.toInt < 1 ∨ 400 < x2.toInt ∨ x3.toInt < 0 ∨ 99 < x3.toInt ∨ x4.toInt < 1 ∨ 999 < x4.toInt) → wt_H ((wp_ap_refuse n (1 : Int32) s).bind fun q6 => if q6.1 = 0 then B q6 else some (q6.1, 0, q6.2.2)) (fun q => ((x1.toInt < 0 ∨ (wt_gf z 108 39).toInt ≤ x1.toInt) ∧ q.1 = 2 ∧ q.2.2 = s) ∨ ((0 ≤ x1.toInt ∧ x1.toInt < (wt_gf z 108 39).toInt) ∧ (((x2.toInt < 1 ∨ 400 < x2.toInt ∨ x3.toInt < 0 ∨ 99 < x3.toInt ∨ x4.toInt < 1 ∨ 999 < x4.toInt) ∧ q.1 = 1 ∧ q.2.2 = s) ∨ ((1 ≤ x2.toInt ∧ x2.toInt ≤ 400 ∧ 0 ≤ x3.toInt ∧ x3.toInt ≤ 99 ∧ 1 ≤ x4.toInt ∧ x4.toInt ≤ 999) ∧ (((wt_gf s 39 8).toInt = 10 ∧ q = (0, (-1 : Int32), s)) ∨ ((wt_gf s 39 8).toInt < 10 ∧ q.1 = 0 ∧ q.2.1 = (wt_gf s 39 8) + (1 : Int32) ∧ wt_fr (fun i k => i = 39 ∧ k = 8) (fun i => 43 < i ∧ i < 48) s q.2.2 ∧ wt_gf q.2.2 39 8 = (wt_gf s 39 8) + (1 : Int32) ∧ (wt_ga q.2.2 44 (Int32.toNatClampNeg (wt_gf s 39 8)) = x1 ∧ wt_ga q.2.2 45 (Int32.toNatClampNeg (wt_gf s 39 8)) = x2 ∧ wt_ga q.2.2 46 (Int32.toNatClampNeg (wt_gf s 39 8)) = x3 ∧ wt_ga q.2.2 47 (Int32.toNatClampNeg (wt_gf s 39 8)) = x4) ∧ ∀ i, 43 < i → i < 48 → ∀ j, j ≠ Int32.toNatClampNeg (wt_gf s 39 8) → wt_ga q.2.2 i j = wt_ga s i j)))))) := by
          intro B hb
          refine wt_H_bh (wh_refuse1 n) (fun q hq => ?_)
          subst hq
          dsimp only
          rw [if_neg (by decide)]
          exact wt_H_some (Or.inr ⟨⟨c2, by omega⟩, Or.inl ⟨hb, rfl, rfl⟩⟩)
        unfold wp_ap_want_B33 wp_ap_want_B38
        refine wt_H_if (fun f => R1 _ (by have := wt_clt f; omega)) (fun f => wt_H_if (fun g => ?_) (fun g => R1 _ (by have := wt_ncl g; omega)))
        have f' := wt_ncl f
        have g' := wt_clt g
        refine wt_H_bh (wh_refuse0 n) (fun q hq => ?_)
        subst hq
        dsimp only
        rw [if_pos rfl]
        unfold wp_ap_want_B55 wp_ap_want_B60
        refine wt_H_if (fun h => R1 _ (by have := wt_clt h; omega)) (fun h => wt_H_if (fun i => ?_) (fun i => R1 _ (by have := wt_ncle i; omega)))
        have h' := wt_ncl h
        have i' := wt_cle i
        refine wt_H_bh (wh_refuse0 n) (fun q hq => ?_)
        subst hq
        dsimp only
        rw [if_pos rfl]
        refine wt_H_if (fun j => ?_) (fun j => ?_)
        · have j' := wt_clt j
          have en := wt_tnI sw10.1
          refine wt_H_bh (wh_addWanted n (k := Int32.toNatClampNeg (wt_gf s 39 8)) (by omega) (by omega)) (fun q10 h10 => ?_)
          obtain ⟨u1, u2, u3, u4⟩ := h10
          exact wt_H_some (Or.inr ⟨⟨c2, by omega⟩, Or.inr ⟨by omega, Or.inr ⟨by omega, rfl, u2, u1, u2, u3, u4⟩⟩⟩)
        · have j' := wt_ncl j
          exact wt_H_some (Or.inr ⟨⟨c2, by omega⟩, Or.inr ⟨by omega, Or.inl ⟨by omega, rfl⟩⟩⟩)
      · subst h4
        dsimp only
        rw [if_neg (by decide)]
        exact wt_H_some (Or.inr ⟨⟨c2, by omega⟩, Or.inl ⟨by omega, rfl, rfl⟩⟩)
    · rw [if_pos c1]
      refine wt_H_bh (wh_miss1 n) (fun q hq => ?_)
      subst hq
      dsimp only
      rw [if_neg (by decide)]
      exact wt_H_some (Or.inl ⟨by omega, rfl, rfl⟩)
  -- the reference
  have M : wt_H (wp_md_want n x1 x2 x3 x4 z) (fun y => ((x1.toInt < 0 ∨ (wt_gf z 108 39).toInt ≤ x1.toInt) ∧ wt_gf y.2 108 0 = 1 ∧ wt_fr (fun i k => i = 108 ∧ k = 0) (fun _ => False) z y.2) ∨ ((0 ≤ x1.toInt ∧ x1.toInt < (wt_gf z 108 39).toInt) ∧ (((x2.toInt < 1 ∨ 400 < x2.toInt ∨ x3.toInt < 0 ∨ 99 < x3.toInt ∨ x4.toInt < 1 ∨ 999 < x4.toInt) ∧ wt_gf y.2 108 0 = 2 ∧ wt_fr (fun i k => i = 108 ∧ k = 0) (fun _ => False) z y.2) ∨ ((1 ≤ x2.toInt ∧ x2.toInt ≤ 400 ∧ 0 ≤ x3.toInt ∧ x3.toInt ≤ 99 ∧ 1 ≤ x4.toInt ∧ x4.toInt ≤ 999) ∧ wt_gf y.2 108 0 = 0 ∧ (((wt_gf z 108 40).toInt = 10 ∧ y.1 = -1 ∧ wt_fr (fun i k => i = 108 ∧ k = 0) (fun _ => False) z y.2) ∨ ((wt_gf z 108 40).toInt ≠ 10 ∧ y.1 = (wt_gf z 108 40) + (1 : Int32) ∧ wt_gf y.2 108 40 = (wt_gf z 108 40) + (1 : Int32) ∧ wt_fr (fun i k => i = 108 ∧ (k = 0 ∨ k = 40)) (fun i => i = 264 + Int32.toNatClampNeg (wt_gf z 108 40)) z y.2 ∧ wt_ga y.2 (264 + Int32.toNatClampNeg (wt_gf z 108 40)) 0 = x1 ∧ wt_ga y.2 (264 + Int32.toNatClampNeg (wt_gf z 108 40)) 1 = x2 ∧ wt_ga y.2 (264 + Int32.toNatClampNeg (wt_gf z 108 40)) 2 = x3 ∧ wt_ga y.2 (264 + Int32.toNatClampNeg (wt_gf z 108 40)) 3 = x4)))))) := by
    unfold wp_md_want
    obtain ⟨z0, ε0⟩ : ∃ o : wt_St, o = wt_sf z 108 0 (0 : Int32) := ⟨_, rfl⟩
    rw [← ε0]
    have g0 := wt_fr_sf ε0
    have t0 : wt_gf z0 108 0 = 0 := wt_v_sf ε0
    have e39 : wt_gf z0 108 39 = wt_gf z 108 39 := g0.1 108 39 (by decide)
    have e40 : wt_gf z0 108 40 = wt_gf z 108 40 := g0.1 108 40 (by decide)
    refine wt_H_bh (wh_isText n (by rw [e39]; exact hz.1) (by rw [e39]; exact hz.2)) (fun y1 h1 => ?_)
    obtain ⟨a2, b2⟩ := h1
    rw [a2]
    rw [e39] at b2
    unfold wp_md_want_B19
    rcases b2 with ⟨d1, d2, d3⟩ | ⟨d1, d2⟩
    · rw [if_neg (by rw [d1]; decide)]
      refine wt_H_bh (wh_bad0 n t0) (fun y hy => ?_)
      subst hy
      dsimp only
      rw [if_pos rfl]
      have R2 : (x2.toInt < 1 ∨ 400 < x2.toInt ∨ x3.toInt < 0 ∨ 99 < x3.toInt ∨ x4.toInt < 1 ∨ 999 < x4.toInt) → wt_H (wp_md_want_B56 n x1 x2 x3 x4 z0) (fun y => ((x1.toInt < 0 ∨ (wt_gf z 108 39).toInt ≤ x1.toInt) ∧ wt_gf y.2 108 0 = 1 ∧ wt_fr (fun i k => i = 108 ∧ k = 0) (fun _ => False) z y.2) ∨ ((0 ≤ x1.toInt ∧ x1.toInt < (wt_gf z 108 39).toInt) ∧ (((x2.toInt < 1 ∨ 400 < x2.toInt ∨ x3.toInt < 0 ∨ 99 < x3.toInt ∨ x4.toInt < 1 ∨ 999 < x4.toInt) ∧ wt_gf y.2 108 0 = 2 ∧ wt_fr (fun i k => i = 108 ∧ k = 0) (fun _ => False) z y.2) ∨ ((1 ≤ x2.toInt ∧ x2.toInt ≤ 400 ∧ 0 ≤ x3.toInt ∧ x3.toInt ≤ 99 ∧ 1 ≤ x4.toInt ∧ x4.toInt ≤ 999) ∧ wt_gf y.2 108 0 = 0 ∧ (((wt_gf z 108 40).toInt = 10 ∧ y.1 = -1 ∧ wt_fr (fun i k => i = 108 ∧ k = 0) (fun _ => False) z y.2) ∨ ((wt_gf z 108 40).toInt ≠ 10 ∧ y.1 = (wt_gf z 108 40) + (1 : Int32) ∧ wt_gf y.2 108 40 = (wt_gf z 108 40) + (1 : Int32) ∧ wt_fr (fun i k => i = 108 ∧ (k = 0 ∨ k = 40)) (fun i => i = 264 + Int32.toNatClampNeg (wt_gf z 108 40)) z y.2 ∧ wt_ga y.2 (264 + Int32.toNatClampNeg (wt_gf z 108 40)) 0 = x1 ∧ wt_ga y.2 (264 + Int32.toNatClampNeg (wt_gf z 108 40)) 1 = x2 ∧ wt_ga y.2 (264 + Int32.toNatClampNeg (wt_gf z 108 40)) 2 = x3 ∧ wt_ga y.2 (264 + Int32.toNatClampNeg (wt_gf z 108 40)) 3 = x4)))))) := by
        intro hb
        unfold wp_md_want_B56 wp_md_want_B61
        refine wt_H_bh (wh_bad1 n t0 (by decide)) (fun y hy => ?_)
        subst hy
        dsimp only
        rw [if_neg (by decide)]
        exact wt_H_some (Or.inr ⟨⟨d2, d3⟩, Or.inl ⟨hb, wt_v_sf rfl, wt_fr.tr g0 (wt_fr_sf rfl) (fun i k h => h) (fun i h => h)⟩⟩)
      refine wt_H_bh (wh_isCopies n) (fun y5 h5 => ?_)
      obtain ⟨a5, b5⟩ := h5
      rw [a5]
      rcases b5 with ⟨f1, f2, f3⟩ | ⟨f1, f2⟩
      · rw [if_neg (by rw [f1]; decide)]
        refine wt_H_bh (wh_in n) (fun y18 h18 => ?_)
        obtain ⟨a18, b18⟩ := h18
        rw [a18]
        rcases b18 with ⟨p1, p2⟩ | ⟨p1, p2, p3⟩
        · rw [if_pos p1]
          exact R2 (by omega)
        · rw [if_neg (by rw [p1]; decide)]
          refine wt_H_bh (wh_in n) (fun y20 h20 => ?_)
          obtain ⟨a20, b20⟩ := h20
          rw [a20]
          rcases b20 with ⟨r1, r2⟩ | ⟨r1, r2, r3⟩
          · rw [if_pos r1]
            exact R2 (by omega)
          · rw [if_neg (by rw [r1]; decide)]
            unfold wp_md_want_B61
            refine wt_H_bh (wh_bad0 n t0) (fun y hy => ?_)
            subst hy
            dsimp only
            rw [if_pos rfl, e40, wt_tn0, wt_tn1]
            refine wt_H_if (fun c => ?_) (fun c => ?_)
            · have c' := wt_ceq c
              exact wt_H_some (Or.inr ⟨⟨d2, d3⟩, Or.inr ⟨by omega, t0, Or.inl ⟨by omega, rfl, g0⟩⟩⟩)
            · have c' := wt_nceq c
              have n2 : Int32.toNatClampNeg (2 : Int32) = 2 := by decide
              have n3 : Int32.toNatClampNeg (3 : Int32) = 3 := by decide
              refine wt_H_gd (fun _ => ?_)
              refine wt_H_gd (fun _ => ?_)
              obtain ⟨s1, δ1⟩ : ∃ o : wt_St, o = wt_sa z0 (264 + Int32.toNatClampNeg (wt_gf z 108 40)) 0 x1 := ⟨_, rfl⟩
              rw [← δ1]
              have h1 := wt_fr_sa δ1
              have e41 : wt_gf s1 108 40 = wt_gf z 108 40 := (h1.1 108 40 (fun h => h)).trans e40
              rw [e41]
              refine wt_H_gd (fun _ => ?_)
              refine wt_H_gd (fun _ => ?_)
              obtain ⟨s2, δ2⟩ : ∃ o : wt_St, o = wt_sa s1 (264 + Int32.toNatClampNeg (wt_gf z 108 40)) 1 x2 := ⟨_, rfl⟩
              rw [← δ2]
              have h2 := wt_fr_sa δ2
              have e42 : wt_gf s2 108 40 = wt_gf z 108 40 := (h2.1 108 40 (fun h => h)).trans e41
              rw [e42]
              refine wt_H_gd (fun _ => ?_)
              refine wt_H_gd (fun _ => ?_)
              rw [n2]
              obtain ⟨s3, δ3⟩ : ∃ o : wt_St, o = wt_sa s2 (264 + Int32.toNatClampNeg (wt_gf z 108 40)) 2 x3 := ⟨_, rfl⟩
              rw [← δ3]
              have h3 := wt_fr_sa δ3
              have e43 : wt_gf s3 108 40 = wt_gf z 108 40 := (h3.1 108 40 (fun h => h)).trans e42
              rw [e43]
              refine wt_H_gd (fun _ => ?_)
              refine wt_H_gd (fun _ => ?_)
              rw [n3]
              obtain ⟨s4, δ4⟩ : ∃ o : wt_St, o = wt_sa s3 (264 + Int32.toNatClampNeg (wt_gf z 108 40)) 3 x4 := ⟨_, rfl⟩
              rw [← δ4]
              have h4 := wt_fr_sa δ4
              have e44 : wt_gf s4 108 40 = wt_gf z 108 40 := (h4.1 108 40 (fun h => h)).trans e43
              rw [e44]
              obtain ⟨s5, δ5⟩ : ∃ o : wt_St, o = wt_sf s4 108 40 ((wt_gf z 108 40) + (1 : Int32)) := ⟨_, rfl⟩
              rw [← δ5]
              have h5 := wt_fr_sf δ5
              have G0 : wt_fr (fun i k => i = 108 ∧ (k = 0 ∨ k = 40)) (fun i => i = 264 + Int32.toNatClampNeg (wt_gf z 108 40)) z z0 := wt_frw g0 (fun i k h => ⟨h.1, Or.inl h.2⟩) (fun i h => h.elim)
              refine wt_H_some (Or.inr ⟨⟨d2, d3⟩, Or.inr ⟨by omega, ?_, Or.inr ⟨by omega, wt_v_sf δ5, wt_v_sf δ5, ((((G0.sa δ1 rfl).sa δ2 rfl).sa δ3 rfl).sa δ4 rfl).sf δ5 ⟨rfl, Or.inr rfl⟩, ?_, ?_, ?_, ?_⟩⟩⟩)
              · show wt_gf s5 108 0 = 0
                rw [h5.1 108 0 (by decide), h4.1 108 0 (fun h => h), h3.1 108 0 (fun h => h), h2.1 108 0 (fun h => h), h1.1 108 0 (fun h => h)]; exact t0
              · rw [h5.2 _ (fun h => h), wt_w_sa δ4 0 (by omega), wt_w_sa δ3 0 (by omega), wt_w_sa δ2 0 (by omega)]; exact wt_v_sa δ1
              · rw [h5.2 _ (fun h => h), wt_w_sa δ4 1 (by omega), wt_w_sa δ3 1 (by omega)]; exact wt_v_sa δ2
              · rw [h5.2 _ (fun h => h), wt_w_sa δ4 2 (by omega)]; exact wt_v_sa δ3
              · rw [h5.2 _ (fun h => h)]; exact wt_v_sa δ4
      · rw [if_pos f1]
        exact R2 (by omega)
    · rw [if_pos d1]
      refine wt_H_bh (wh_bad1 n t0 (by decide)) (fun y hy => ?_)
      subst hy
      dsimp only
      rw [if_neg (by decide)]
      exact wt_H_some (Or.inl ⟨d2, wt_v_sf rfl, wt_fr.tr g0 (wt_fr_sf rfl) (fun i k h => h) (fun i h => h)⟩)
  have sc0 : ∀ z' : wt_St, wt_fr (fun i k => i = 108 ∧ k = 0) (fun _ => False) z z' → wu_SC s z' := fun z' g => wu_SC_fr sc (wt_fr.rf (F := fun _ _ => False) (A := fun _ => False)) g (fun _ _ h => h) (fun k hk => by (try dsimp only); omega) (fun _ _ _ h => h) (fun _ _ h => h)
  refine wt_HH_of C M (fun q y hq hy => ?_)
  rcases hq with ⟨a1, a2, a3⟩ | ⟨a1, hq⟩
  · rcases hy with ⟨b1, b2, b3⟩ | ⟨b1, -⟩
    · exact ⟨Or.inl ⟨a2, b2⟩, by rw [a3]; exact sc0 _ b3⟩
    · omega
  · rcases hy with ⟨b1, -⟩ | ⟨b1, hy⟩
    · omega
    · rcases hq with ⟨c1, c2, c3⟩ | ⟨c1, hq⟩
      · rcases hy with ⟨d1, d2, d3⟩ | ⟨d1, -⟩
        · exact ⟨Or.inr (Or.inl ⟨c2, d2⟩), by rw [c3]; exact sc0 _ d3⟩
        · omega
      · rcases hy with ⟨d1, -⟩ | ⟨d1, d2, hy⟩
        · omega
        · rcases hq with ⟨f1, f2⟩ | ⟨f1, f2, f3, f4, f5, f6, f7⟩
          · rcases hy with ⟨g1, g2, g3⟩ | ⟨g1, -⟩
            · subst f2
              exact ⟨Or.inr (Or.inr ⟨rfl, d2, g2.symm⟩), sc0 _ g3⟩
            · omega
          · rcases hy with ⟨g1, -⟩ | ⟨g1, g2, g3, g4, g5, g6, g7, g8⟩
            · omega
            · have en : Int32.toNatClampNeg (wt_gf z 108 40) = Int32.toNatClampNeg (wt_gf s 39 8) := by rw [sw.1]
              have ens := wt_tnI sw10.1
              have ei := wt_i1 (c := wt_gf s 39 8) (by omega)
              refine ⟨Or.inr (Or.inr ⟨f2, d2, by rw [f3, g2, sw.1]⟩), wu_SC_mk sc ?_ ⟨by rw [f5, g3, sw.1], by rw [f5]; omega, fun k hk => ?_⟩ (fun i p q => f4.2 i (by (try dsimp only); omega)) (fun i hi => g4.2 i (by (try dsimp only); omega))⟩
              · rw [f4.1 39 9 (by decide), g4.1 108 26 (by decide)]; exact wu_SC_SH sc
              · rw [f5, ei] at hk
                have e39 : wt_gf y.2 108 39 = wt_gf z 108 39 := g4.1 108 39 (by decide)
                rw [e39]
                show (wt_ga q.2.2 44 k = wt_ga y.2 (264 + k) 0 ∧ wt_ga q.2.2 45 k = wt_ga y.2 (264 + k) 1 ∧ wt_ga q.2.2 46 k = wt_ga y.2 (264 + k) 2 ∧ wt_ga q.2.2 47 k = wt_ga y.2 (264 + k) 3) ∧ _
                by_cases hc : k = Int32.toNatClampNeg (wt_gf s 39 8)
                · rw [hc]
                  rw [en] at g5 g6 g7 g8
                  rw [f6.1, f6.2.1, f6.2.2.1, f6.2.2.2, g5, g6, g7, g8]
                  exact ⟨⟨rfl, rfl, rfl, rfl⟩, ⟨a1.1, by omega⟩, by omega, by omega, by omega⟩
                · rw [f7 44 (by omega) (by omega) k hc, f7 45 (by omega) (by omega) k hc, f7 46 (by omega) (by omega) k hc, f7 47 (by omega) (by omega) k hc, g4.2 (264 + k) (by (try dsimp only); omega), g4.2 (264 + k) (by (try dsimp only); omega), g4.2 (264 + k) (by (try dsimp only); omega), g4.2 (264 + k) (by (try dsimp only); omega)]
                  exact sw.2.2 k (by omega)
