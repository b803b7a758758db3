/-- the reference's fault is one of three, and nothing is thrown while a case is read -/
theorem wh_kL (n m : Nat) (hn : 4294967297 < n) {z : wt_St} (r : wt_RI z) : wt_H (wt_it (wt_kL n) m z) (fun y => wt_RI y ∧ wt_fr (fun i k => i = 108 ∧ (k = 24 ∨ (4 ≤ k ∧ k < 8))) (fun i => i = 110 ∨ i = 112 ∨ i = 114 ∨ i = 116 ∨ i = 118 ∨ i = 120 ∨ i = 122) z y) := by
  refine wt_H_it (fun y : wt_St => wt_RI y ∧ wt_fr (fun i k => i = 108 ∧ (k = 24 ∨ (4 ≤ k ∧ k < 8))) (fun i => i = 110 ∨ i = 112 ∨ i = 114 ∨ i = 116 ∨ i = 118 ∨ i = 120 ∨ i = 122) z y) (fun K y hy hK => ?_) m z ⟨r, wt_fr.rf⟩
  unfold wt_kL
  refine wt_H_if (fun _ => wt_H_if (fun _ => wt_H_some hy) (fun _ => ?_)) (fun _ => wt_H_some hy)
  refine wt_H_bh (wq_md_clause n hn y hy.1).h (fun a ha => ?_)
  obtain ⟨fa, ra, -⟩ := ha
  refine wt_H_bh (wq_md_blanks n hn a ra).h (fun b hb => ?_)
  obtain ⟨fb, rb, -⟩ := hb
  exact hK b ⟨rb, wt_fr.tr (wt_fr.tr hy.2 fa (fun i k h => by (try dsimp only at h); omega) (fun i h => by (try dsimp only at h); omega)) fb (fun i k h => by (try dsimp only at h); omega) (fun i h => h.elim)⟩
set_option maxHeartbeats 8000000 in
/-- kase on both sides: both refuse, or both answer alike; and then the same tables stand, or nothing of either has been taken over -/
theorem wr_kase (n : Nat) (hn : 4294967297 < n) {x1 : Int32} {s z : wt_St} (tb : wt_TB s z) (rz : wt_RI z) : wt_HH (wp_ap_kase n x1 s) (wp_md_kase n x1 z) (fun q y => (q.1 = 1 ∧ wt_gf y.2 108 0 = 1 ∧ q.2.2 = s ∧ wt_fr (fun i k => i = 108 ∧ k = 0) (fun _ => False) z y.2) ∨ (q.1 = 0 ∧ wt_gf y.2 108 0 = 0 ∧ q.2.1 = y.1 ∧ wt_gf q.2.2 1 7 = wt_gf y.2 108 3 ∧ ((q.2.1.toInt < 0 ∧ wt_fr (fun i k => (i = 1 ∧ 2 ≤ k) ∨ (i = 12 ∧ k = 7)) (fun i => i = 3 ∨ (13 ≤ i ∧ i < 20)) s q.2.2 ∧ wt_fr (fun i k => i = 108 ∧ (k = 24 ∨ k < 8)) (fun i => i = 110 ∨ i = 112 ∨ i = 114 ∨ i = 116 ∨ i = 118 ∨ i = 120 ∨ i = 122) z y.2) ∨ wt_KC q.2.2 y.2))) := by
  have k0 : (0 : Int32).toInt = 0 := by decide
  have k10 : (10 : Int32).toInt = 10 := by decide
  have hz : 0 ≤ (wt_gf z 108 1).toInt ∧ (wt_gf z 108 1).toInt ≤ 500 := wt_R_gf rz 0 rfl
  unfold wp_md_kase
  obtain ⟨z0, ε0⟩ : ∃ o : wt_St, o = wt_sf z 108 0 (0 : Int32) := ⟨_, rfl⟩
  rw [← ε0]
  have g0 := wt_fr_sf ε0
  have rz0 := wt_RI_fno rz ε0 (Or.inr (by decide))
  have e1 : wt_gf z0 108 1 = wt_gf z 108 1 := g0.1 108 1 (by (try dsimp only); omega)
  have t0 : wt_gf z0 108 0 = 0 := wt_v_sf ε0
  rw [e1]
  refine wt_HH_r (wh_in n) (fun q1 h1 => ?_)
  obtain ⟨h1a, h1b⟩ := h1
  rw [h1a]
  have BAD : wt_HH (wp_ap_kase_B20 n x1 (1 : Int32) s) (wp_md_kase_B23 n x1 (1 : Int32) z0) (fun q y => (q.1 = 1 ∧ wt_gf y.2 108 0 = 1 ∧ q.2.2 = s ∧ wt_fr (fun i k => i = 108 ∧ k = 0) (fun _ => False) z y.2) ∨ (q.1 = 0 ∧ wt_gf y.2 108 0 = 0 ∧ q.2.1 = y.1 ∧ wt_gf q.2.2 1 7 = wt_gf y.2 108 3 ∧ ((q.2.1.toInt < 0 ∧ wt_fr (fun i k => (i = 1 ∧ 2 ≤ k) ∨ (i = 12 ∧ k = 7)) (fun i => i = 3 ∨ (13 ≤ i ∧ i < 20)) s q.2.2 ∧ wt_fr (fun i k => i = 108 ∧ (k = 24 ∨ k < 8)) (fun i => i = 110 ∨ i = 112 ∨ i = 114 ∨ i = 116 ∨ i = 118 ∨ i = 120 ∨ i = 122) z y.2) ∨ wt_KC q.2.2 y.2))) := by
    unfold wp_ap_kase_B20 wp_md_kase_B23
    refine wt_HH_l (wh_refuse1 n) (fun q hq => ?_)
    subst hq
    dsimp only
    rw [if_neg (by decide)]
    refine wt_HH_r (wh_bad1 n t0 (by decide)) (fun y hy => ?_)
    subst hy
    dsimp only
    rw [if_neg (by decide)]
    exact wt_HH_some (Or.inl ⟨rfl, wt_v_sf rfl, rfl, wt_fr.tr g0 (wt_fr_sf rfl) (fun i k h => h) (fun i h => h)⟩)
  have GOOD : 0 ≤ x1.toInt → x1.toInt ≤ (wt_gf z 108 1).toInt → wt_HH (wp_ap_kase_B20 n x1 (0 : Int32) s) (wp_md_kase_B23 n x1 (0 : Int32) z0) (fun q y => (q.1 = 1 ∧ wt_gf y.2 108 0 = 1 ∧ q.2.2 = s ∧ wt_fr (fun i k => i = 108 ∧ k = 0) (fun _ => False) z y.2) ∨ (q.1 = 0 ∧ wt_gf y.2 108 0 = 0 ∧ q.2.1 = y.1 ∧ wt_gf q.2.2 1 7 = wt_gf y.2 108 3 ∧ ((q.2.1.toInt < 0 ∧ wt_fr (fun i k => (i = 1 ∧ 2 ≤ k) ∨ (i = 12 ∧ k = 7)) (fun i => i = 3 ∨ (13 ≤ i ∧ i < 20)) s q.2.2 ∧ wt_fr (fun i k => i = 108 ∧ (k = 24 ∨ k < 8)) (fun i => i = 110 ∨ i = 112 ∨ i = 114 ∨ i = 116 ∨ i = 118 ∨ i = 120 ∨ i = 122) z y.2) ∨ wt_KC q.2.2 y.2))) := by
    intro hx0 hx1
    have en := wt_tnI hx0
    unfold wp_ap_kase_B20 wp_md_kase_B23
    refine wt_HH_l (wh_refuse0 n) (fun q hq => ?_)
    subst hq
    dsimp only
    rw [if_pos rfl]
    refine wt_HH_r (wh_bad0 n t0) (fun y hy => ?_)
    subst hy
    dsimp only
    rw [if_pos rfl]
    refine wt_HH_l (wh_begin n (β := fun j => wt_ga s 2 j) hx0 (by omega) (fun _ _ => rfl)) (fun s6 hs6 => ?_)
    obtain ⟨tv, e17, -, -, fb⟩ := hs6
    refine wt_HH_r ((wh_starts n (β := fun j => wt_ga s 2 j) (z0 := z0) hx0 (by omega) (fun j hj => by rw [g0.2 109 (fun h => h)]; exact (tb.1 j hj).symm)).and (wq_md_starts n hn x1 z0 rz0 hx0 (by omega)).h) (fun z7 hz7 => ?_)
    obtain ⟨⟨j, rj, rv7, h5, h6, h7, g7⟩, -, rz7, -⟩ := hz7
    refine wt_HH_r ((wh_clearsCase n).and (wq_md_clearsCase n hn z7 rz7).h) (fun z8 hz8 => ?_)
    obtain ⟨⟨g8, l8, m8, v8⟩, -, rz8⟩ := hz8
    rw [wt_kL_fac]
    -- the class' own frame, up to the fault
    have FC : wt_H (wp_ld_fill n 12 s6) (fun q => wt_fr (fun i k => (i = 1 ∧ 2 ≤ k) ∨ (i = 12 ∧ k = 7)) (fun i => i = 3 ∨ (13 ≤ i ∧ i < 20)) s q.2) := (wq_ld_fill n hn 12 s6).h.imp (fun q hq => wt_fr.tr (wt_frw fb (fun i k h => Or.inl h) (fun i h => h.elim)) hq (fun i k h => by (try dsimp only at h); omega) (fun i h => by (try dsimp only at h); omega))
    refine wt_HH_b (P := fun q y => ((q.1 = 0 ∧ wt_ft q.2 y) ∨ (q.1 = 1 ∧ wt_gf y 108 5 = 0 ∧ ∃ c, wt_lr c q.2 y)) ∧ (wt_RI y ∧ wt_fr (fun i k => i = 108 ∧ (k = 24 ∨ (4 ≤ k ∧ k < 8))) (fun i => i = 110 ∨ i = 112 ∨ i = 114 ∨ i = 116 ∨ i = 118 ∨ i = 120 ∨ i = 122) z8 y) ∧ wt_fr (fun i k => (i = 1 ∧ 2 ≤ k) ∨ (i = 12 ∧ k = 7)) (fun i => i = 3 ∨ (13 ≤ i ∧ i < 20)) s q.2) ?_ (fun a b hab => ?_)
    · refine fun a b ha hb => ⟨?_, wh_kL n n hn rz8 b hb, FC a ha⟩
      have HF : wt_HH (wp_ld_fill n 12 s6) (wt_it (wt_kL n) n z8) (fun q y => (q.1 = 0 ∧ wt_ft q.2 y) ∨ (q.1 = 1 ∧ wt_gf y 108 5 = 0 ∧ ∃ c, wt_lr c q.2 y)) := by
        unfold wp_ld_fill
        refine wt_HH_l (wh_ldclear n) (fun s7 hs7 => ?_)
        obtain ⟨f7, d13, d15, d17, d18, d19, d127⟩ := hs7
        have tv7 := wt_tv_fr tv f7 (by decide) (by decide) (by decide)
        have rv8 := wt_rv_fr rv7 g8 (by decide) (by decide) (by decide)
        have h58 : wt_gf z8 108 5 = 0 := by rw [g8.1 108 5 (by decide)]; exact h5
        refine wr_fillLoop n n n hn tv7 rj rv8 h58 ⟨fun l hl => ?_, fun l hl => ?_, fun l hl => ?_, fun l hl => ?_, fun m hm => ?_, ?_, ?_, ?_⟩
        · rw [d13 l hl, (l8 l hl).1]
          exact ⟨rfl, by omega, by omega, fun i hi => absurd hi (by omega)⟩
        · rw [d15 l hl, (l8 l hl).2.1]
          exact ⟨rfl, by omega, by omega, fun i hi => absurd hi (by omega)⟩
        · rw [d17 l hl, (l8 l hl).2.2.1]
        · rw [d18 l hl, (l8 l hl).2.2.2]
        · rw [d19 m hm, m8 m hm]
        · rw [d127, v8]
        · rw [g8.1 108 7 (by decide)]; exact h7
        · rw [f7.1 1 7 (by decide), g8.1 108 6 (by decide), e17, h6]
      exact HF a b ha hb
    · obtain ⟨hab, ⟨rb, gb⟩, fc⟩ := hab
      have hb0 : wt_gf b 108 0 = 0 := by rw [gb.1 108 0 (by (try dsimp only); omega), g8.1 108 0 (by decide), g7.1 108 0 (by (try dsimp only); omega)]; exact t0
      have h53 : 0 ≤ (wt_gf b 108 5).toInt ∧ (wt_gf b 108 5).toInt ≤ 3 := wt_R_gf rb 3 rfl
      rcases hab with ⟨a1, f, p, hf, fl, fm⟩ | ⟨a1, b5, c, lrc⟩
      · rw [if_pos a1]
        unfold wp_md_kase_B70
        obtain ⟨z9, ε9⟩ : ∃ o : wt_St, o = wt_sf b 108 3 (wt_gf b 108 6) := ⟨_, rfl⟩
        rw [← ε9]
        have g9 := wt_fr_sf ε9
        have e95 : wt_gf z9 108 5 = wt_gf b 108 5 := g9.1 108 5 (by (try dsimp only); omega)
        have e65 : wt_gf a.2 1 6 = wt_gf b 108 5 := wt_eqI (fl.1.trans fm.1.symm)
        have es := wt_subE (x := wt_gf b 108 5) (y := (10 : Int32)) (by omega) (by omega)
        rw [if_neg (by rw [e95]; exact wt_frt_nz fm hf), e95, e65]
        refine wt_HH_some (Or.inr ⟨rfl, (g9.1 108 0 (by (try dsimp only); omega)).trans hb0, rfl, ?_, Or.inl ⟨?_, fc, ?_⟩⟩)
        · show wt_gf a.2 1 7 = wt_gf z9 108 3
          rw [wt_v_sf ε9]
          exact wt_eqI (fl.2.trans fm.2.symm)
        · show ((wt_gf b 108 5) - (10 : Int32)).toInt < 0
          omega
        · exact wt_fr.tr (wt_fr.tr (wt_fr.tr (wt_fr.tr (wt_frw g0 (fun i k h => by (try dsimp only at h); omega) (fun i h => h.elim)) g7 (fun i k h => by (try dsimp only at h); omega) (fun i h => h.elim)) g8 (fun i k h => by (try dsimp only at h); omega) (fun i h => by (try dsimp only at h); omega)) gb (fun i k h => by (try dsimp only at h); omega) (fun i h => h)) g9 (fun i k h => by (try dsimp only at h); omega) (fun i h => h.elim)
      · rw [if_neg (by rw [a1]; decide)]
        exact (wr_kaseEnd n hn lrc.2.2.2.2.2.2.2 b5 lrc).imp (fun q y hq => Or.inr ⟨hq.1, hq.2.2.1.trans hb0, hq.2.1, hq.2.2.2.1, Or.inr hq.2.2.2.2⟩)
  unfold wp_ap_kase wp_ap_kase_B15
  have ts := wt_ceq tb.2
  rcases h1b with ⟨c1, c2⟩ | ⟨c1, c2, c3⟩
  · rw [if_pos c1]
    refine wt_HH_il (fun d => BAD) (fun d => ?_)
    have d' := wt_ncl d
    refine wt_HH_il (fun f => ?_) (fun f => BAD)
    have f' := wt_cle f
    omega
  · rw [if_neg (show ¬ x1 < 0 from fun d => by have := wt_clt d; omega), if_pos (Int32.le_iff_toInt_le.mpr (by omega)), if_neg (by rw [c1]; decide)]
    exact GOOD (by omega) c3
