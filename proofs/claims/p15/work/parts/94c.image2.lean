theorem wt_IV_m12 {z : wt_St} (v : wt_IV z) (l : Nat) : (wt_ga z 111 l).toInt ≤ 12 := v.2.1 l
theorem wt_IV_108 {z : wt_St} (v : wt_IV z) (g : Nat) : (wt_ga z 276 g).toInt ≤ 108 := (show 0 ≤ (wt_ga z 276 g).toInt ∧ (wt_ga z 276 g).toInt ≤ 108 from wt_Ra13 v.1 276 (by decide) (by decide) g).2
set_option maxRecDepth 100000 in
set_option maxHeartbeats 8000000 in
theorem wr_image (n : Nat) (hn : 4294967297 < n) {s z : wt_St} (v : wt_IV z) (sc : wu_SC s z) (si : wu_SI s z) : wt_HH (wp_ap_image n s) (wp_md_image n z) (fun q y => q.1 = y.1 ∧ wu_SC q.2 y.2 ∧ wu_SI q.2 y.2) := by
  have k0 : (0 : Int32).toInt = 0 := by decide
  have k3 : (3 : Int32).toInt = 3 := by decide
  have g41 : 0 ≤ (wt_gf z 108 41).toInt ∧ (wt_gf z 108 41).toInt ≤ 3 := wt_Rf9 v.1
  have d := si.1
  have d' := wt_ceq d
  have C : wt_H (wp_ap_image n s) (fun q => ((wt_gf z 108 41).toInt = 3 ∧ q = ((-1 : Int32), s)) ∨ ((wt_gf z 108 41).toInt < 3 ∧ q.1 = (wt_gf z 108 41) + (1 : Int32) ∧ wt_gf q.2 0 14 = (wt_gf z 108 41) + (1 : Int32) ∧ ∃ b : Nat, b = 49 + 9 * Int32.toNatClampNeg (wt_gf z 108 41) ∧ wt_fr (fun i k => (i = b ∧ (k = 8 ∨ k = 9)) ∨ (i = 0 ∧ k = 14)) (fun i => b < i ∧ i < b + 9) s q.2 ∧ (∀ i, 0 < i → i < 4 → ∀ j, j < 312 → wt_ga q.2 (b + i) j = wt_ga s (39 + i) j) ∧ (∀ j, j < 4 → wt_ga q.2 (b + 4) j = wt_ga s (39 + 4) j) ∧ (∀ i, 4 < i → i < 9 → ∀ j, j < 10 → wt_ga q.2 (b + i) j = wt_ga s (39 + i) j) ∧ wt_gf q.2 b 8 = wt_gf s 39 8 ∧ wt_gf q.2 b 9 = wt_gf s 39 9)) := by
    unfold wp_ap_image
    rw [d]
    refine wt_H_if (fun h => ?_) (fun h => wt_H_if (fun h2 => ?_) (fun h2 => ?_))
    · have h' := wt_clt h
      omega
    · have h2' := wt_clt h2
      refine wt_H_gd (fun g => ?_)
      have en := wt_tnI g41.1
      refine wt_H_bh (wh_stbecome2 n (t0 := 49 + 9 * Int32.toNatClampNeg (wt_gf z 108 41)) (t1 := 39) (by omega) (by omega) (by omega)) (fun q4 h4 => ?_)
      obtain ⟨f4, b1, b2, b3, b4, b5⟩ := h4
      have e14 : wt_gf q4 0 14 = wt_gf z 108 41 := (f4.1 0 14 (by (try dsimp only); omega)).trans d
      rw [e14]
      obtain ⟨q5, ε5⟩ : ∃ o : wt_St, o = wt_sf q4 0 14 ((wt_gf z 108 41) + (1 : Int32)) := ⟨_, rfl⟩
      rw [← ε5]
      have f5 := wt_fr_sf ε5
      refine wt_H_some (Or.inr ⟨by omega, wt_v_sf ε5, wt_v_sf ε5, _, rfl, wt_fr.sf (wt_frw f4 (fun i k h => Or.inl h) (fun i h => h)) ε5 (Or.inr ⟨rfl, rfl⟩), fun i p q j hj => ?_, fun j hj => ?_, fun i p q j hj => ?_, ?_, ?_⟩)
      · rw [f5.2 _ (fun h => h)]; exact b1 i p q j hj
      · rw [f5.2 _ (fun h => h)]; exact b2 j hj
      · rw [f5.2 _ (fun h => h)]; exact b3 i p q j hj
      · rw [f5.1 _ 8 (by (try dsimp only); omega)]; exact b4
      · rw [f5.1 _ 9 (by (try dsimp only); omega)]; exact b5
    · have h2' := wt_ncl h2
      exact wt_H_some (Or.inl ⟨by omega, rfl⟩)
  have M : wt_H (wp_md_image n z) (fun r => ((wt_gf z 108 41).toInt = 3 ∧ r.1 = -1 ∧ wt_fr (fun i k => i = 108 ∧ k = 0) (fun _ => False) z r.2) ∨ ((wt_gf z 108 41).toInt < 3 ∧ r.1 = (wt_gf z 108 41) + (1 : Int32) ∧ wt_gf r.2 108 41 = (wt_gf z 108 41) + (1 : Int32) ∧ ∃ a : Nat, a = 283 + Int32.toNatClampNeg (wt_gf z 108 41) ∧ wt_fr (fun i k => i = 108 ∧ (k = 0 ∨ k = 42 ∨ k = 41)) (fun i => i = a) z r.2 ∧ wu_E1 a 338 r.2 ∧ wu_E4 a 40 r.2 ∧ ∀ g, g < 4 → wt_EQ a r.2 g)) := by
    unfold wp_md_image
    obtain ⟨s0, ε0⟩ : ∃ o : wt_St, o = wt_sf z 108 0 (0 : Int32) := ⟨_, rfl⟩
    rw [← ε0]
    have f0 := wt_fr_sf ε0
    have e41 : wt_gf s0 108 41 = wt_gf z 108 41 := f0.1 108 41 (by (try dsimp only); omega)
    rw [e41]
    refine wt_H_if (fun h => ?_) (fun h => ?_)
    · have h' := wt_ceq h
      exact wt_H_some (Or.inl ⟨by omega, rfl, f0⟩)
    · have h' := wt_nceq h
      refine wt_H_gd (fun g => ?_)
      have en := wt_tnI g41.1
      refine wt_H_bh (((wq_md_movesAll n hn (283 + Int32.toNatClampNeg (wt_gf z 108 41)) (0 : Int32) s0 (wt_RI_fno v.1 ε0 (Or.inr (by decide +kernel))) (by omega) (by omega) (fun h => absurd k0 h)).h).and (wh_movesAll n (by omega) (by omega))) (fun q3 h3 => ?_)
      obtain ⟨⟨km, -, eq⟩, e1, e4⟩ := h3
      obtain ⟨-, -, -, -, ks⟩ := km
      obtain ⟨ka, kf⟩ := ks k0
      have e3 : wt_gf q3 108 41 = wt_gf z 108 41 := (kf 108 41 (by omega)).trans e41
      rw [e3]
      obtain ⟨q4, ε4⟩ : ∃ o : wt_St, o = wt_sf q3 108 41 ((wt_gf z 108 41) + (1 : Int32)) := ⟨_, rfl⟩
      rw [← ε4]
      have f4 := wt_fr_sf ε4
      refine wt_H_some (Or.inr ⟨by omega, wt_v_sf ε4, wt_v_sf ε4, _, rfl, ⟨fun i k h => ?_, fun i h j => ?_⟩, ?_, fun w j hj hw => ?_, fun g hg => ?_⟩)
      · rw [f4.1 i k (by (try dsimp only at h ⊢); omega), kf i k (by (try dsimp only at h); omega), f0.1 i k (by (try dsimp only at h ⊢); omega)]
      · rw [f4.2 i (fun h => h), ka i h, f0.2 i (fun h => h)]
      · obtain ⟨p1, p2, p3⟩ := e1
        refine ⟨?_, ?_, fun k hk => ?_⟩
        · rw [f4.1 108 26 (by decide), f4.2 _ (fun h => h)]; exact p1
        · rw [f4.1 108 40 (by decide), f4.2 _ (fun h => h)]; exact p2
        · rw [f4.2 121 (fun h => h), f4.2 124 (fun h => h), f4.2 _ (fun h => h), f4.2 _ (fun h => h)]; exact p3 k hk
      · rw [f4.2 _ (fun h => h), f4.2 _ (fun h => h)]; exact e4 w j hj hw
      · obtain ⟨p1, p2, p3⟩ := eq g hg
        refine ⟨?_, ?_, fun k hk => ?_⟩
        · rw [f4.2 275 (fun h => h), f4.2 _ (fun h => h)]; exact p1
        · rw [f4.2 276 (fun h => h), f4.2 _ (fun h => h)]; exact p2
        · rw [f4.2 _ (fun h => h), f4.2 _ (fun h => h)]; exact p3 k hk
  refine wt_HH_of C M (fun q y hq hy => ?_)
  rcases hq with ⟨c1, c2⟩ | ⟨c1, c2, c3, b, eb, fb, b1, b2, b3, b4, b5⟩
  · rcases hy with ⟨m1, m2, m3⟩ | ⟨m1, -⟩
    · subst c2
      exact ⟨m2.symm, wu_SC_fr sc (wt_fr.rf (F := fun _ _ => False) (A := fun _ => False)) m3 (fun _ _ h => h) (fun k hk => by (try dsimp only); omega) (fun _ _ _ h => h) (fun _ _ h => h), wu_SI_fr si (wt_fr.rf (F := fun _ _ => False) (A := fun _ => False)) m3 g41.2 (fun _ _ _ h => h) (fun k hk => by (try dsimp only); omega) (fun _ _ _ h => h) (fun _ _ h => h)⟩
    · omega
  · rcases hy with ⟨m1, -⟩ | ⟨m1, m2, m3, a, ea, fa, e1, e4, eq⟩
    · omega
    · have en := wt_tnI g41.1
      have ei := wt_i1 (c := wt_gf z 108 41) (by omega)
      refine ⟨c2.trans m2.symm, wu_SC_fr sc fb fa (fun k hk => by (try dsimp only); omega) (fun k hk => by (try dsimp only); omega) (fun i p q => by (try dsimp only); omega) (fun i hi => by (try dsimp only); omega), c3.trans m3.symm, fun i hi => ?_⟩
      rw [m3, ei] at hi
      have em : ∀ j, wt_ga y.2 111 j = wt_ga z 111 j := fa.2 111 (by (try dsimp only); omega)
      have eT : wt_gf y.2 108 39 = wt_gf z 108 39 := fa.1 108 39 (by (try dsimp only); omega)
      by_cases hc : i = Int32.toNatClampNeg (wt_gf z 108 41)
      · subst hc
        have h1 := wu_SS_cp (s' := q.2) (b' := b) sc (wt_IV_m12 v) b1 b2 b3 b4 b5
        unfold wu_S1
        rw [← eb, ← ea]
        obtain ⟨p1, p2, p3⟩ := e1
        refine wu_SS_rf h1 (wt_IV_m12 v) (fun g _ => wt_IV_108 v g) em (by rw [eT]; exact Int.le_refl _) (fun c hc => ?_) (fun c hc => ?_) (fun g hg => ?_) (fun g hg => ?_) (fun g hg k hk => ?_) (fun w hw j hj => ?_) ?_ ?_
        · show wt_ga y.2 a (2 + 2 * c) = wt_ga z 121 c
          rw [← (p3 c hc).1]; exact fa.2 121 (by (try dsimp only); omega) c
        · show wt_ga y.2 a (3 + 2 * c) = wt_ga z 124 c
          rw [← (p3 c hc).2]; exact fa.2 124 (by (try dsimp only); omega) c
        · show wt_ga y.2 a (678 + 110 * g) = wt_ga z 275 g
          rw [← (eq g hg).1]; exact fa.2 275 (by (try dsimp only); omega) g
        · show wt_ga y.2 a (679 + 110 * g) = wt_ga z 276 g
          rw [← (eq g hg).2.1]; exact fa.2 276 (by (try dsimp only); omega) g
        · show wt_ga y.2 a (680 + 110 * g + k) = wt_ga z (278 + g) k
          rw [← (eq g hg).2.2 k hk]; exact fa.2 (278 + g) (by (try dsimp only); omega) k
        · show wt_ga y.2 a (1118 + 4 * w + j) = wt_ga z (264 + w) j
          rw [← e4 w j hj (by omega)]; exact fa.2 (264 + w) (by (try dsimp only); omega) j
        · rw [← p2]; exact fa.1 108 40 (by (try dsimp only); omega)
        · rw [← p1]; exact fa.1 108 26 (by (try dsimp only); omega)
      · have h1 := si.2 i (by omega)
        have ek : wt_ga y.2 (283 + i) = wt_ga z (283 + i) := funext (fa.2 _ (by (try dsimp only); omega))
        have em' : wt_ga y.2 111 = wt_ga z 111 := funext em
        unfold wu_S1
        rw [ek, em', eT]
        exact wu_SS_eq h1 (fun j p q' => fb.2 j (by (try dsimp only); omega)) (fb.1 _ 8 (by (try dsimp only); omega)) (fb.1 _ 9 (by (try dsimp only); omega)) (Int.le_refl _)
set_option maxRecDepth 100000 in
set_option maxHeartbeats 8000000 in
theorem wr_restore (n : Nat) (hn : 4294967297 < n) {s z : wt_St} (v : wt_IV z) (sc : wu_SC s z) (si : wu_SI s z) : wt_HH (wp_ap_restore n s) (wp_md_restore n z) (fun q y => q.1 = y.1 ∧ wu_SC q.2 y.2 ∧ wu_SI q.2 y.2) := by
  have k0 : (0 : Int32).toInt = 0 := by decide
  have k1 : (1 : Int32).toInt = 1 := by decide
  have k3 : (3 : Int32).toInt = 3 := by decide
  have g41 : 0 ≤ (wt_gf z 108 41).toInt ∧ (wt_gf z 108 41).toInt ≤ 3 := wt_Rf9 v.1
  have d := si.1
  have es := wt_subE (x := wt_gf z 108 41) (y := (1 : Int32)) (by omega) (by omega)
  have C : wt_H (wp_ap_restore n s) (fun q => ((wt_gf z 108 41).toInt = 0 ∧ q = ((-1 : Int32), s)) ∨ (0 < (wt_gf z 108 41).toInt ∧ q.1 = (wt_gf z 108 41) - (1 : Int32) ∧ wt_gf q.2 0 14 = (wt_gf z 108 41) - (1 : Int32) ∧ ∃ b : Nat, b = 49 + 9 * Int32.toNatClampNeg ((wt_gf z 108 41) - (1 : Int32)) ∧ wt_fr (fun i k => (i = 39 ∧ (k = 8 ∨ k = 9)) ∨ (i = 0 ∧ k = 14)) (fun i => 39 < i ∧ i < 48) s q.2 ∧ (∀ i, 0 < i → i < 4 → ∀ j, j < 312 → wt_ga q.2 (39 + i) j = wt_ga s (b + i) j) ∧ (∀ j, j < 4 → wt_ga q.2 (39 + 4) j = wt_ga s (b + 4) j) ∧ (∀ i, 4 < i → i < 9 → ∀ j, j < 10 → wt_ga q.2 (39 + i) j = wt_ga s (b + i) j) ∧ wt_gf q.2 39 8 = wt_gf s b 8 ∧ wt_gf q.2 39 9 = wt_gf s b 9)) := by
    unfold wp_ap_restore
    rw [d]
    refine wt_H_if (fun h => ?_) (fun h => wt_H_if (fun h2 => ?_) (fun h2 => ?_))
    · have h' := wt_clt h
      exact wt_H_some (Or.inl ⟨by omega, rfl⟩)
    · have h' := wt_ncl h
      refine wt_H_gd (fun g => ?_)
      have en := wt_tnI (x := (wt_gf z 108 41) - (1 : Int32)) (by omega)
      refine wt_H_bh (wh_stbecome2 n (t0 := 39) (t1 := 49 + 9 * Int32.toNatClampNeg ((wt_gf z 108 41) - (1 : Int32))) (by omega) (by omega) (by omega)) (fun q4 h4 => ?_)
      obtain ⟨f4, b1, b2, b3, b4, b5⟩ := h4
      obtain ⟨q5, ε5⟩ : ∃ o : wt_St, o = wt_sf q4 0 14 ((wt_gf z 108 41) - (1 : Int32)) := ⟨_, rfl⟩
      rw [← ε5]
      have f5 := wt_fr_sf ε5
      refine wt_H_some (Or.inr ⟨by omega, wt_v_sf ε5, wt_v_sf ε5, _, rfl, wt_fr.sf (wt_frw f4 (fun i k h => Or.inl h) (fun i h => by (try dsimp only at h ⊢); omega)) ε5 (Or.inr ⟨rfl, rfl⟩), fun i p q j hj => ?_, fun j hj => ?_, fun i p q j hj => ?_, ?_, ?_⟩)
      · rw [f5.2 _ (fun h => h)]; exact b1 i p q j hj
      · rw [f5.2 _ (fun h => h)]; exact b2 j hj
      · rw [f5.2 _ (fun h => h)]; exact b3 i p q j hj
      · rw [f5.1 _ 8 (by (try dsimp only); omega)]; exact b4
      · rw [f5.1 _ 9 (by (try dsimp only); omega)]; exact b5
    · have h' := wt_ncl h
      have h2' := wt_ncl h2
      omega
  have M : wt_H (wp_md_restore n z) (fun r => ((wt_gf z 108 41).toInt = 0 ∧ r.1 = -1 ∧ wt_fr (fun i k => i = 108 ∧ k = 0) (fun _ => False) z r.2) ∨ (0 < (wt_gf z 108 41).toInt ∧ r.1 = (wt_gf z 108 41) - (1 : Int32) ∧ wt_gf r.2 108 41 = (wt_gf z 108 41) - (1 : Int32) ∧ ∃ a : Nat, a = 283 + Int32.toNatClampNeg ((wt_gf z 108 41) - (1 : Int32)) ∧ wt_fr (fun i k => i = 108 ∧ (k = 0 ∨ k = 41 ∨ k = 42 ∨ k = 26 ∨ k = 40)) (fun i => i = 121 ∨ i = 124 ∨ i = 275 ∨ i = 276 ∨ (278 ≤ i ∧ i < 282) ∨ (264 ≤ i ∧ i < 274)) z r.2 ∧ wu_E1 a 338 r.2 ∧ wu_E4 a 40 r.2 ∧ ∀ g, g < 4 → wt_EQ a r.2 g)) := by
    unfold wp_md_restore
    obtain ⟨s0, ε0⟩ : ∃ o : wt_St, o = wt_sf z 108 0 (0 : Int32) := ⟨_, rfl⟩
    rw [← ε0]
    have f0 := wt_fr_sf ε0
    have e41 : wt_gf s0 108 41 = wt_gf z 108 41 := f0.1 108 41 (by (try dsimp only); omega)
    rw [e41]
    refine wt_H_if (fun h => ?_) (fun h => ?_)
    · have h' := wt_ceq h
      exact wt_H_some (Or.inl ⟨by omega, rfl, f0⟩)
    · have h' := wt_nceq h
      obtain ⟨s1, ε1⟩ : ∃ o : wt_St, o = wt_sf s0 108 41 ((wt_gf z 108 41) - (1 : Int32)) := ⟨_, rfl⟩
      rw [← ε1]
      have v41 := wt_v_sf ε1
      rw [v41]
      have f1 := wt_fr_sf ε1
      refine wt_H_gd (fun g => ?_)
      have en := wt_tnI (x := (wt_gf z 108 41) - (1 : Int32)) (by omega)
      have kk := (v.2.2.2.2 (Int32.toNatClampNeg ((wt_gf z 108 41) - (1 : Int32))) (by omega)).1
      refine wt_H_bh (((wq_md_movesAll n hn (283 + Int32.toNatClampNeg ((wt_gf z 108 41) - (1 : Int32))) (1 : Int32) s1 (wt_RI_fin (wt_RI_fno v.1 ε0 (Or.inr (by decide +kernel))) ε1 9 rfl rfl (show 0 ≤ ((wt_gf z 108 41) - (1 : Int32)).toInt by omega) (show ((wt_gf z 108 41) - (1 : Int32)).toInt ≤ 3 by omega)) (by omega) (by omega) (fun _ j hj => ?_)).h).and (wh_movesAll n (by omega) (by omega))) (fun q3 h3 => ?_)
      · rw [f1.2 _ (fun h => h), f0.2 _ (fun h => h)]
        exact kk j hj
      · obtain ⟨⟨km, fr, eq⟩, e1, e4⟩ := h3
        obtain ⟨-, -, -, kr, -⟩ := km
        have kr' := kr (by omega)
        have e3 : wt_gf q3 108 41 = (wt_gf z 108 41) - (1 : Int32) := (fr.1 108 41 (by unfold wt_mF; omega)).trans v41
        refine wt_H_some (Or.inr ⟨by omega, e3, e3, _, rfl, ⟨fun i k h => ?_, fun i h j => ?_⟩, e1, e4, eq⟩)
        · rw [fr.1 i k (by unfold wt_mF; (try dsimp only at h); omega), f1.1 i k (by (try dsimp only at h ⊢); omega), f0.1 i k (by (try dsimp only at h ⊢); omega)]
        · by_cases hc : i = 283 + Int32.toNatClampNeg ((wt_gf z 108 41) - (1 : Int32))
          · rw [hc, kr' j, f1.2 _ (fun h => h), f0.2 _ (fun h => h)]
          · rw [fr.2 i (by unfold wt_mA; (try dsimp only at h); omega), f1.2 i (fun h => h), f0.2 i (fun h => h)]
  refine wt_HH_of C M (fun q y hq hy => ?_)
  rcases hq with ⟨c1, c2⟩ | ⟨c1, c2, c3, b, eb, fb, b1, b2, b3, b4, b5⟩
  · rcases hy with ⟨m1, m2, m3⟩ | ⟨m1, -⟩
    · subst c2
      exact ⟨m2.symm, wu_SC_fr sc (wt_fr.rf (F := fun _ _ => False) (A := fun _ => False)) m3 (fun _ _ h => h) (fun k hk => by (try dsimp only); omega) (fun _ _ _ h => h) (fun _ _ h => h), wu_SI_fr si (wt_fr.rf (F := fun _ _ => False) (A := fun _ => False)) m3 g41.2 (fun _ _ _ h => h) (fun k hk => by (try dsimp only); omega) (fun _ _ _ h => h) (fun _ _ h => h)⟩
    · omega
  · rcases hy with ⟨m1, -⟩ | ⟨m1, m2, m3, a, ea, fa, e1, e4, eq⟩
    · omega
    · have en := wt_tnI (x := (wt_gf z 108 41) - (1 : Int32)) (by omega)
      have em : ∀ j, wt_ga y.2 111 j = wt_ga z 111 j := fa.2 111 (by (try dsimp only); omega)
      have eT : wt_gf y.2 108 39 = wt_gf z 108 39 := fa.1 108 39 (by (try dsimp only); omega)
      have hL : ((Int32.toNatClampNeg ((wt_gf z 108 41) - (1 : Int32)) : Nat) : Int) < (wt_gf z 108 41).toInt := by omega
      have S1 := si.2 _ hL
      have KK := (v.2.2.2.2 _ hL).1
      unfold wu_S1 at S1
      rw [← eb, ← ea] at S1
      rw [← ea] at KK
      have ey : ∀ j, wt_ga y.2 a j = wt_ga z a j := fa.2 a (by (try dsimp only); omega)
      refine ⟨c2.trans m2.symm, ?_, c3.trans m3.symm, fun i hi => ?_⟩
      · have h1 := wu_SS_cp (s' := q.2) (b' := 39) S1 (wt_IV_m12 v) b1 b2 b3 b4 b5
        obtain ⟨p1, p2, p3⟩ := e1
        refine wu_SS_rf h1 (wt_IV_m12 v) (fun g hg => ((KK (679 + 110 * g) (by omega)).2.2.2.1 (by omega) (by omega) (by omega)).2) em (by rw [eT]; exact Int.le_refl _) (fun c hc => ?_) (fun c hc => ?_) (fun g hg => ?_) (fun g hg => ?_) (fun g hg k hk => ?_) (fun w hw j hj => ?_) ?_ ?_
        · rw [(p3 c hc).1]; exact ey _
        · rw [(p3 c hc).2]; exact ey _
        · rw [(eq g hg).1]; exact ey _
        · rw [(eq g hg).2.1]; exact ey _
        · show wt_ga y.2 (278 + g) k = _
          rw [(eq g hg).2.2 k hk]; exact ey _
        · show wt_ga y.2 (264 + w) j = _
          rw [e4 w j hj (by omega)]; exact ey _
        · rw [p2]; exact ey _
        · rw [p1]; exact ey _
      · rw [m3] at hi
        have h1 := si.2 i (by omega)
        have ek : wt_ga y.2 (283 + i) = wt_ga z (283 + i) := funext (fa.2 _ (by (try dsimp only); omega))
        have em' : wt_ga y.2 111 = wt_ga z 111 := funext em
        unfold wu_S1
        rw [ek, em', eT]
        exact wu_SS_eq h1 (fun j p q' => fb.2 j (by (try dsimp only); omega)) (fb.1 _ 8 (by (try dsimp only); omega)) (fb.1 _ 9 (by (try dsimp only); omega)) (Int.le_refl _)
