-- 92c.q1sp.lean.txt
section WTQ0
theorem wt_frh {F : Nat → Nat → Prop} {A : Nat → Prop} {σ q : wt_St} (h : wt_fr F A σ q) : wt_fr F A σ q := h
set_option maxHeartbeats 8000000 in
theorem wa1_kase (n : Nat) (hn : 4294967297 < n) {σ : wt_St} (x1 : Int32) (v : wt_IV σ) (ti : (wt_gf σ 1 2).toInt = (wt_gf σ 108 1).toInt) (jt : wt_JT σ) (j : wu_Q1 σ) : wt_H (wp_ap_kase n x1 σ) (fun q => wt_H (wp_md_kase n x1 q.2.2) (fun r => ((q.1 = 1 ∧ wt_gf r.2 108 0 = 1) ∨ (q.1 = 0 ∧ wt_gf r.2 108 0 = 0 ∧ q.2.1 = r.1)) ∧ wu_Q1 r.2)) := by
  intro q hq r hr
  obtain ⟨q', hq', hfq⟩ := wq_ap_kase n hn x1 σ
  rw [hq] at hq'
  cases hq'
  have fq := hfq.1
  have v2 : wt_IV q.2.2 := wt_IV_cls v fq (fun k => by (try dsimp only); omega) (fun i hi => by (try dsimp only); omega)
  have tb : wt_TB σ q.2.2 := ⟨fun i hi => by rw [fq.2 109 (by (try dsimp only); omega)]; exact jt i hi, wt_eqI (by rw [fq.1 108 1 (by (try dsimp only); omega)]; exact ti)⟩
  obtain ⟨r', hr', hfr⟩ := wq_md_kase n hn x1 q.2.2 v2.1 v2.2.1
  rw [hr] at hr'
  cases hr'
  have fr := hfr.1
  obtain ⟨a, b, c, d⟩ := j
  obtain ⟨to2, tx2⟩ := wu_TT_fr v.1 v2.1 a b fq fr (fun i k h => by (try dsimp only); omega) (fun i h => by unfold wu_qA at h; (try dsimp only); omega) (fun k => by (try dsimp only); omega) (fun i h => by (try dsimp only); omega) (fun i k h => by (try dsimp only); omega) (fun i h => by (try dsimp only); omega) (fun k h => by (try dsimp only); omega) (fun i h => by unfold wu_qB at h; (try dsimp only); omega)
  have p7 : wt_gf r.2 1 7 = wt_gf q.2.2 1 7 := fr.1 1 7 (by (try dsimp only); omega)
  have p14 : wt_gf r.2 0 14 = wt_gf q.2.2 0 14 := fr.1 0 14 (by (try dsimp only); omega)
  have m41 : wt_gf q.2.2 108 41 = wt_gf σ 108 41 := fq.1 108 41 (by (try dsimp only); omega)
  have m3 : wt_gf q.2.2 108 3 = wt_gf σ 108 3 := fq.1 108 3 (by (try dsimp only); omega)
  rcases wr_kase n hn tb v2.1 q r hq hr with ⟨e1, e2, e3, e4⟩ | ⟨e1, e2, e3, e4, e5⟩
  · refine ⟨Or.inl ⟨e1, e2⟩, to2, tx2, ?_, ?_⟩
    · rw [p7, e3, e4.1 108 3 (by (try dsimp only); omega), m3]; exact c
    · rw [p14, e3, e4.1 108 41 (by (try dsimp only); omega), m41]; exact d
  · refine ⟨Or.inr ⟨e1, e2, e3⟩, to2, tx2, by rw [p7]; exact e4, ?_⟩
    rcases e5 with ⟨-, f1, f2⟩ | kc
    · rw [p14, f1.1 0 14 (by (try dsimp only); omega), f2.1 108 41 (by (try dsimp only); omega), m41]; exact d
    · obtain ⟨-, -, -, -, -, -, -, -, -, -, k1, k2⟩ := kc
      rw [p14, k1, k2]
set_option maxHeartbeats 8000000 in
theorem wa1_tongue (n : Nat) (hn : 4294967297 < n) {σ : wt_St} (x1 : Int32) (v : wt_IV σ) (ti : (wt_gf σ 1 2).toInt = (wt_gf σ 108 1).toInt) (jt : wt_JT σ) (j : wu_Q1 σ) : wt_H (wp_ap_tongue n x1 σ) (fun q => wt_H (wp_md_tongue n x1 q.2.2) (fun r => ((q.1 = 1 ∧ wt_gf r.2 108 0 = 1) ∨ (q.1 = 0 ∧ wt_gf r.2 108 0 = 0 ∧ q.2.1 = r.1)) ∧ wu_Q1 r.2)) := by
  intro q hq r hr
  obtain ⟨q', hq', hfq⟩ := wq_ap_tongue n hn x1 σ
  rw [hq] at hq'
  cases hq'
  have fq := hfq.1
  have v2 : wt_IV q.2.2 := wt_IV_cls v fq (fun k => by (try dsimp only); omega) (fun i hi => by (try dsimp only); omega)
  have tb : wt_TB σ q.2.2 := ⟨fun i hi => by rw [fq.2 109 (by (try dsimp only); omega)]; exact jt i hi, wt_eqI (by rw [fq.1 108 1 (by (try dsimp only); omega)]; exact ti)⟩
  obtain ⟨r', hr', hfr⟩ := wq_md_tongue n hn x1 q.2.2 v2.1
  rw [hr] at hr'
  cases hr'
  have fr := hfr.1
  have rr := hfr.2.1
  obtain ⟨a, b, c, d⟩ := j
  have p7 : wt_gf r.2 1 7 = wt_gf q.2.2 1 7 := fr.1 1 7 (by (try dsimp only); omega)
  have p14 : wt_gf r.2 0 14 = wt_gf q.2.2 0 14 := fr.1 0 14 (by (try dsimp only); omega)
  have m41 : wt_gf q.2.2 108 41 = wt_gf σ 108 41 := fq.1 108 41 (by (try dsimp only); omega)
  have m3 : wt_gf q.2.2 108 3 = wt_gf σ 108 3 := fq.1 108 3 (by (try dsimp only); omega)
  rcases wr_tongue n hn tb v2.1 q r hq hr with ⟨e1, e2, e3, e4⟩ | ⟨e1, e2, e3, e4, e5⟩
  · have fq0 : wt_fr (fun _ _ => False) (fun _ => False) σ q.2.2 := by rw [e3]; exact wt_fr.rf
    obtain ⟨to2, tx2⟩ := wu_TT_fr v.1 v2.1 a b fq0 e4 (fun i k _ h => h) (fun i _ h => h) (fun k h => h) (fun i _ h => h) (fun i k h => by (try dsimp only); omega) (fun i _ h => h) (fun k h => by (try dsimp only); omega) (fun i _ h => h)
    refine ⟨Or.inl ⟨e1, e2⟩, to2, tx2, ?_, ?_⟩
    · rw [p7, e3, e4.1 108 3 (by (try dsimp only); omega), m3]; exact c
    · rw [p14, e3, e4.1 108 41 (by (try dsimp only); omega), m41]; exact d
  · rcases e5 with ⟨-, f1, f2⟩ | te
    · obtain ⟨to2, tx2⟩ := wu_TT_fr v.1 v2.1 a b f1 f2 (fun i k h => by (try dsimp only); omega) (fun i h => by unfold wu_qA at h; (try dsimp only); omega) (fun k => by (try dsimp only); omega) (fun i h => by (try dsimp only); omega) (fun i k h => by (try dsimp only); omega) (fun i h => by unfold wt_gA; omega) (fun k h => by (try dsimp only); omega) (fun i h => by unfold wu_qB at h; unfold wt_gA; omega)
      refine ⟨Or.inr ⟨e1, e2, e3⟩, to2, tx2, by rw [p7]; exact e4, ?_⟩
      rw [p14, f1.1 0 14 (by (try dsimp only); omega), f2.1 108 41 (by (try dsimp only); omega), m41]; exact d
    · obtain ⟨to, ⟨z34, -, z14⟩, -, -, ⟨z39, -, z41⟩, -⟩ := te
      have k0 : (0 : Int32).toInt = 0 := by decide
      have txr : wu_TX q.2.2 r.2 := ⟨z34.trans z39.symm, fun t ht => by rw [z39] at ht; omega⟩
      refine ⟨Or.inr ⟨e1, e2, e3⟩, wu_endTO to fr (fun i k h => by (try dsimp only); omega) (fun i h => by (try dsimp only); omega), wu_endTX rr txr fr (fun i k h => by (try dsimp only); omega) (fun i h => by (try dsimp only); omega), by rw [p7]; exact e4, ?_⟩
      rw [p14, z14, z41]
set_option maxHeartbeats 8000000 in
theorem wa1_text (n : Nat) (hn : 4294967297 < n) {σ : wt_St} (x1 : Int32) (v : wt_IV σ) (ti : (wt_gf σ 1 2).toInt = (wt_gf σ 108 1).toInt) (jt : wt_JT σ) (j : wu_Q1 σ) : wt_H (wp_ap_text n x1 σ) (fun q => wt_H (wp_md_text n x1 q.2.2) (fun r => ((q.1 = 1 ∧ wt_gf r.2 108 0 = 1) ∨ (q.1 = 0 ∧ wt_gf r.2 108 0 = 0 ∧ q.2.1 = r.1)) ∧ wu_Q1 r.2)) := by
  intro q hq r hr
  obtain ⟨q', hq', hfq⟩ := wq_ap_text n hn x1 σ
  rw [hq] at hq'
  cases hq'
  have fq := hfq.1
  have v2 : wt_IV q.2.2 := wt_IV_cls v fq (fun k => by (try dsimp only); omega) (fun i hi => by (try dsimp only); omega)
  have tb : wt_TB σ q.2.2 := ⟨fun i hi => by rw [fq.2 109 (by (try dsimp only); omega)]; exact jt i hi, wt_eqI (by rw [fq.1 108 1 (by (try dsimp only); omega)]; exact ti)⟩
  obtain ⟨r', hr', hfr⟩ := wq_md_text n hn x1 q.2.2 v2.1
  rw [hr] at hr'
  cases hr'
  have fr := hfr.1
  have rr := hfr.2.1
  obtain ⟨a, b, c, d⟩ := j
  obtain ⟨tom, txm⟩ := wu_mid a b v.1 fq (fun k => by (try dsimp only); omega) (fun i h => by (try dsimp only); omega)
  have p7 : wt_gf r.2 1 7 = wt_gf q.2.2 1 7 := fr.1 1 7 (by (try dsimp only); omega)
  have p14 : wt_gf r.2 0 14 = wt_gf σ 0 14 := (fr.1 0 14 (by (try dsimp only); omega)).trans (fq.1 0 14 (by (try dsimp only); omega))
  have m41 : wt_gf r.2 108 41 = wt_gf σ 108 41 := (fr.1 108 41 (by (try dsimp only); omega)).trans (fq.1 108 41 (by (try dsimp only); omega))
  have m3 : wt_gf q.2.2 108 3 = wt_gf σ 108 3 := fq.1 108 3 (by (try dsimp only); omega)
  have to2 : wt_TO r.2 r.2 := by
    refine wu_endTO (wt_TO_fr a fq (wt_fr.tr (F := fun i k => i < 108 ∨ (i = 108 ∧ (k < 8 ∨ k = 39))) (A := fun i => i < 108 ∨ i = 274 ∨ i = 253 ∨ (255 ≤ i ∧ i < 263)) (wt_frw fq (fun i k h => by (try dsimp only at h); omega) (fun i h => by (try dsimp only at h); omega)) fr (fun i k h => by (try dsimp only at h); omega) (fun i h => by (try dsimp only at h); omega)) ⟨by (try dsimp only); omega, by (try dsimp only); omega⟩ (fun i p q => by (try dsimp only); omega) ⟨by (try dsimp only); omega, by (try dsimp only); omega⟩ (fun i hi => by (try dsimp only); omega)) fr (fun i k h => by (try dsimp only); omega) (fun i h => by (try dsimp only); omega)
  rcases wr_text n hn tb v2.1 tom txm q r hq hr with ⟨e1, e2, e3, e4⟩ | ⟨e1, e2, e3, e4, txr⟩
  · have fq0 : wt_fr (fun _ _ => False) (fun _ => False) σ q.2.2 := by rw [e3]; exact wt_fr.rf
    obtain ⟨-, tx2⟩ := wu_TT_fr v.1 v2.1 a b fq0 e4 (fun i k _ h => h) (fun i _ h => h) (fun k h => h) (fun i _ h => h) (fun i k h => by (try dsimp only); omega) (fun i _ h => h) (fun k h => by (try dsimp only); omega) (fun i _ h => h)
    refine ⟨Or.inl ⟨e1, e2⟩, to2, tx2, ?_, ?_⟩
    · rw [p7, e3, e4.1 108 3 (by (try dsimp only); omega), m3]; exact c
    · rw [p14, m41]; exact d
  · refine ⟨Or.inr ⟨e1, e2, e3⟩, to2, wu_endTX rr txr fr (fun i k h => by (try dsimp only); omega) (fun i h => by (try dsimp only); omega), by rw [p7]; exact e4, ?_⟩
    rw [p14, m41]; exact d
end WTQ0
-- 92d.q1im.lean.txt
section WTQ1
set_option maxHeartbeats 4000000 in
theorem wa1_image (n : Nat) (hn : 4294967297 < n) {σ : wt_St} (v : wt_IV σ) (j : wu_Q1 σ) : wt_H (wp_ap_image n σ) (fun q => wt_H (wp_md_image n q.2) (fun r => q.1 = r.1 ∧ wu_Q1 r.2)) := by
  have k0 : (0 : Int32).toInt = 0 := by decide
  have k3 : (3 : Int32).toInt = 3 := by decide
  intro q hq r hr
  obtain ⟨q', hq', fq⟩ := wq_ap_image n hn σ
  rw [hq] at hq'
  cases hq'
  have v2 : wt_IV q.2 := wt_IV_cls v fq (fun k => by (try dsimp only); omega) (fun i hi => by (try dsimp only); omega)
  have fr := wf_md_image n hn v2 r hr
  obtain ⟨a, b, c, d⟩ := j
  obtain ⟨to2, tx2⟩ := wu_TT_fr v.1 v2.1 a b fq fr (fun i k h => by (try dsimp only); omega) (fun i h => by unfold wu_qA at h; (try dsimp only); omega) (fun k => by (try dsimp only); omega) (fun i h => by (try dsimp only); omega) (fun i k h => by unfold wt_iF; omega) (fun i h => by unfold wt_iA; omega) (fun k h => by unfold wt_iF; omega) (fun i h => by unfold wu_qB at h; unfold wt_iA; omega)
  have g41 : 0 ≤ (wt_gf σ 108 41).toInt ∧ (wt_gf σ 108 41).toInt ≤ 3 := wt_R_gf v.1 9 rfl
  have d' := wt_ceq d
  have m41 : wt_gf q.2 108 41 = wt_gf σ 108 41 := fq.1 108 41 (by (try dsimp only); omega)
  have p14 : wt_gf r.2 0 14 = wt_gf q.2 0 14 := fr.1 0 14 (by unfold wt_iF; omega)
  have pl : wt_gf r.2 1 7 = wt_gf r.2 108 3 := by
    rw [fr.1 1 7 (by unfold wt_iF; omega), fq.1 1 7 (by (try dsimp only); omega), fr.1 108 3 (by unfold wt_iF; omega), fq.1 108 3 (by (try dsimp only); omega)]; exact c
  have C : wt_H (wp_ap_image n σ) (fun q => ((wt_gf σ 108 41).toInt = 3 ∧ q.1 = -1 ∧ wt_gf q.2 0 14 = wt_gf σ 0 14) ∨ ((wt_gf σ 108 41).toInt < 3 ∧ q.1 = (wt_gf σ 0 14) + (1 : Int32) ∧ wt_gf q.2 0 14 = (wt_gf σ 0 14) + (1 : Int32))) := by
    unfold wp_ap_image
    refine wt_H_if (fun h => ?_) (fun h => wt_H_if (fun h2 => ?_) (fun h2 => ?_))
    · have h' := wt_clt h
      omega
    · have h2' := wt_clt h2
      refine wt_H_gd (fun g => ?_)
      have gi := wt_ixn g
      refine wt_H_bh (wq_st_become n hn (49 + 9 * Int32.toNatClampNeg (wt_gf σ 0 14)) 39 σ).h (fun q4 h4 => ?_)
      have e14 : wt_gf q4 0 14 = wt_gf σ 0 14 := h4.1 0 14 (by (try dsimp only); omega)
      refine wt_H_some (Or.inr ⟨by omega, ?_, ?_⟩)
      · show wt_gf (wt_sf q4 0 14 ((wt_gf q4 0 14) + (1 : Int32))) 0 14 = _
        rw [wt_v_sf rfl, e14]
      · show wt_gf (wt_sf q4 0 14 ((wt_gf q4 0 14) + (1 : Int32))) 0 14 = _
        rw [wt_v_sf rfl, e14]
    · have h2' := wt_ncl h2
      exact wt_H_some (Or.inl ⟨by omega, rfl, rfl⟩)
  have M : wt_H (wp_md_image n q.2) (fun r => ((wt_gf σ 108 41).toInt = 3 ∧ r.1 = -1 ∧ wt_gf r.2 108 41 = wt_gf σ 108 41) ∨ ((wt_gf σ 108 41).toInt < 3 ∧ r.1 = (wt_gf σ 108 41) + (1 : Int32) ∧ wt_gf r.2 108 41 = (wt_gf σ 108 41) + (1 : Int32))) := by
    unfold wp_md_image
    obtain ⟨s0, ε0⟩ : ∃ o : wt_St, o = wt_sf q.2 108 0 (0 : Int32) := ⟨_, rfl⟩
    rw [← ε0]
    have f0 := wt_fr_sf ε0
    have e41 : wt_gf s0 108 41 = wt_gf σ 108 41 := (f0.1 108 41 (by (try dsimp only); omega)).trans m41
    rw [e41]
    refine wt_H_if (fun h => ?_) (fun h => ?_)
    · have h' := wt_ceq h
      exact wt_H_some (Or.inl ⟨by omega, rfl, e41⟩)
    · have h' := wt_nceq h
      refine wt_H_gd (fun g => ?_)
      have gi := wt_ixn g
      have en := wt_tnI gi.1
      refine wt_H_bh (wq_md_movesAll n hn (283 + Int32.toNatClampNeg (wt_gf σ 108 41)) (0 : Int32) s0 (wt_RI_fno v2.1 ε0 (Or.inr (by decide))) (by omega) (by omega) (fun h => absurd k0 h)).h (fun q3 h3 => ?_)
      have e3 : wt_gf q3 108 41 = wt_gf σ 108 41 := (h3.2.1.1 108 41 (by unfold wt_mF; omega)).trans e41
      refine wt_H_some (Or.inr ⟨by omega, ?_, ?_⟩)
      · show wt_gf (wt_sf q3 108 41 ((wt_gf q3 108 41) + (1 : Int32))) 108 41 = _
        rw [wt_v_sf rfl, e3]
      · show wt_gf (wt_sf q3 108 41 ((wt_gf q3 108 41) + (1 : Int32))) 108 41 = _
        rw [wt_v_sf rfl, e3]
  rcases C q hq with ⟨c1, c2, c3⟩ | ⟨c1, c2, c3⟩
  · rcases M r hr with ⟨m1, m2, m3⟩ | ⟨m1, -⟩
    · exact ⟨c2.trans m2.symm, to2, tx2, pl, by rw [p14, c3, m3]; exact d⟩
    · omega
  · rcases M r hr with ⟨m1, -⟩ | ⟨m1, m2, m3⟩
    · omega
    · exact ⟨by rw [c2, m2, d], to2, tx2, pl, by rw [p14, c3, m3, d]⟩
set_option maxHeartbeats 4000000 in
theorem wa1_restore (n : Nat) (hn : 4294967297 < n) {σ : wt_St} (v : wt_IV σ) (j : wu_Q1 σ) : wt_H (wp_ap_restore n σ) (fun q => wt_H (wp_md_restore n q.2) (fun r => q.1 = r.1 ∧ wu_Q1 r.2)) := by
  have k0 : (0 : Int32).toInt = 0 := by decide
  have k1 : (1 : Int32).toInt = 1 := by decide
  have k3 : (3 : Int32).toInt = 3 := by decide
  intro q hq r hr
  obtain ⟨q', hq', fq⟩ := wq_ap_restore n hn σ
  rw [hq] at hq'
  cases hq'
  have v2 : wt_IV q.2 := wt_IV_cls v fq (fun k => by (try dsimp only); omega) (fun i hi => by (try dsimp only); omega)
  have fr := wf_md_restore n hn v2 r hr
  obtain ⟨a, b, c, d⟩ := j
  obtain ⟨to2, tx2⟩ := wu_TT_fr v.1 v2.1 a b fq fr (fun i k h => by (try dsimp only); omega) (fun i h => by unfold wu_qA at h; (try dsimp only); omega) (fun k => by (try dsimp only); omega) (fun i h => by (try dsimp only); omega) (fun i k h => by unfold wt_iF; omega) (fun i h => by unfold wt_iA; omega) (fun k h => by unfold wt_iF; omega) (fun i h => by unfold wu_qB at h; unfold wt_iA; omega)
  have g41 : 0 ≤ (wt_gf σ 108 41).toInt ∧ (wt_gf σ 108 41).toInt ≤ 3 := wt_R_gf v.1 9 rfl
  have d' := wt_ceq d
  have m41 : wt_gf q.2 108 41 = wt_gf σ 108 41 := fq.1 108 41 (by (try dsimp only); omega)
  have p14 : wt_gf r.2 0 14 = wt_gf q.2 0 14 := fr.1 0 14 (by unfold wt_iF; omega)
  have pl : wt_gf r.2 1 7 = wt_gf r.2 108 3 := by
    rw [fr.1 1 7 (by unfold wt_iF; omega), fq.1 1 7 (by (try dsimp only); omega), fr.1 108 3 (by unfold wt_iF; omega), fq.1 108 3 (by (try dsimp only); omega)]; exact c
  have es := wt_subE (x := wt_gf σ 0 14) (y := (1 : Int32)) (by omega) (by omega)
  have es2 := wt_subE (x := wt_gf σ 108 41) (y := (1 : Int32)) (by omega) (by omega)
  have C : wt_H (wp_ap_restore n σ) (fun q => ((wt_gf σ 108 41).toInt = 0 ∧ q.1 = -1 ∧ wt_gf q.2 0 14 = wt_gf σ 0 14) ∨ (0 < (wt_gf σ 108 41).toInt ∧ q.1 = (wt_gf σ 0 14) - (1 : Int32) ∧ wt_gf q.2 0 14 = (wt_gf σ 0 14) - (1 : Int32))) := by
    unfold wp_ap_restore
    refine wt_H_if (fun h => ?_) (fun h => wt_H_if (fun h2 => ?_) (fun h2 => ?_))
    · have h' := wt_clt h
      exact wt_H_some (Or.inl ⟨by omega, rfl, rfl⟩)
    · have h' := wt_ncl h
      refine wt_H_gd (fun g => ?_)
      refine wt_H_bh (wq_st_become n hn 39 (49 + 9 * Int32.toNatClampNeg ((wt_gf σ 0 14) - (1 : Int32))) σ).h (fun q4 h4 => ?_)
      refine wt_H_some (Or.inr ⟨by omega, ?_, ?_⟩)
      · show wt_gf (wt_sf q4 0 14 ((wt_gf σ 0 14) - (1 : Int32))) 0 14 = _
        exact wt_v_sf rfl
      · show wt_gf (wt_sf q4 0 14 ((wt_gf σ 0 14) - (1 : Int32))) 0 14 = _
        exact wt_v_sf rfl
    · have h' := wt_ncl h
      have h2' := wt_ncl h2
      omega
  have M : wt_H (wp_md_restore n q.2) (fun r => ((wt_gf σ 108 41).toInt = 0 ∧ r.1 = -1 ∧ wt_gf r.2 108 41 = wt_gf σ 108 41) ∨ (0 < (wt_gf σ 108 41).toInt ∧ r.1 = (wt_gf σ 108 41) - (1 : Int32) ∧ wt_gf r.2 108 41 = (wt_gf σ 108 41) - (1 : Int32))) := by
    unfold wp_md_restore
    obtain ⟨s0, ε0⟩ : ∃ o : wt_St, o = wt_sf q.2 108 0 (0 : Int32) := ⟨_, rfl⟩
    rw [← ε0]
    have f0 := wt_fr_sf ε0
    have e41 : wt_gf s0 108 41 = wt_gf σ 108 41 := (f0.1 108 41 (by (try dsimp only); omega)).trans m41
    rw [e41]
    refine wt_H_if (fun h => ?_) (fun h => ?_)
    · have h' := wt_ceq h
      exact wt_H_some (Or.inl ⟨by omega, rfl, e41⟩)
    · have h' := wt_nceq h
      obtain ⟨s1, ε1⟩ : ∃ o : wt_St, o = wt_sf s0 108 41 ((wt_gf σ 108 41) - (1 : Int32)) := ⟨_, rfl⟩
      rw [← ε1]
      have v41 := wt_v_sf ε1
      rw [v41]
      have f1 := wt_fr_sf ε1
      refine wt_H_gd (fun g => ?_)
      have gi := wt_ixn g
      have en := wt_tnI gi.1
      have kk := (v2.2.2.2.2 (Int32.toNatClampNeg ((wt_gf σ 108 41) - (1 : Int32))) (by rw [m41]; omega)).1
      refine wt_H_bh (wq_md_movesAll n hn (283 + Int32.toNatClampNeg ((wt_gf σ 108 41) - (1 : Int32))) (1 : Int32) s1 (wt_RI_fin (wt_RI_fno v2.1 ε0 (Or.inr (by decide))) ε1 9 rfl rfl (show 0 ≤ ((wt_gf σ 108 41) - (1 : Int32)).toInt by omega) (show ((wt_gf σ 108 41) - (1 : Int32)).toInt ≤ 3 by omega)) (by omega) (by omega) (fun _ j hj => ?_)).h (fun q3 h3 => ?_)
      · rw [f1.2 _ (fun h => h), f0.2 _ (fun h => h)]
        exact kk j hj
      · have e3 : wt_gf q3 108 41 = (wt_gf σ 108 41) - (1 : Int32) := (h3.2.1.1 108 41 (by unfold wt_mF; omega)).trans v41
        exact wt_H_some (Or.inr ⟨by omega, e3, e3⟩)
  rcases C q hq with ⟨c1, c2, c3⟩ | ⟨c1, c2, c3⟩
  · rcases M r hr with ⟨m1, m2, m3⟩ | ⟨m1, -⟩
    · exact ⟨c2.trans m2.symm, to2, tx2, pl, by rw [p14, c3, m3]; exact d⟩
    · omega
  · rcases M r hr with ⟨m1, -⟩ | ⟨m1, m2, m3⟩
    · omega
    · exact ⟨by rw [c2, m2, d], to2, tx2, pl, by rw [p14, c3, m3, d]⟩
end WTQ1
-- 93a.gates.lean.txt
section WTQ2
/-! what is asked first: a text, a word, a letter, copies -/
theorem wh_txhas (n : Nat) {x : Int32} {s : wt_St} : wt_H (wp_tx_has n x s) (fun q => q.2 = s ∧ ((q.1 = 1 ∧ 0 ≤ x.toInt ∧ x.toInt < (wt_gf s 34 4).toInt) ∨ (q.1 = 0 ∧ (x.toInt < 0 ∨ (wt_gf s 34 4).toInt ≤ x.toInt)))) := by
  have k0 : (0 : Int32).toInt = 0 := by decide
  unfold wp_tx_has
  refine wt_H_if (fun c => ?_) (fun c => wt_H_if (fun d => ?_) (fun d => ?_))
  · have := wt_clt c
    exact wt_H_some ⟨rfl, Or.inr ⟨rfl, by omega⟩⟩
  · have := wt_cle d
    exact wt_H_some ⟨rfl, Or.inr ⟨rfl, by omega⟩⟩
  · have := wt_ncl c
    have := wt_ncle d
    exact wt_H_some ⟨rfl, Or.inl ⟨rfl, by omega, by omega⟩⟩
theorem wh_tghas (n : Nat) {t : Nat} {x : Int32} {s : wt_St} : wt_H (wp_tg_has n t x s) (fun q => q.2 = s ∧ ((q.1 = 1 ∧ 0 ≤ x.toInt ∧ x.toInt < (wt_gf s t 6).toInt) ∨ (q.1 = 0 ∧ (x.toInt < 0 ∨ (wt_gf s t 6).toInt ≤ x.toInt)))) := by
  have k0 : (0 : Int32).toInt = 0 := by decide
  unfold wp_tg_has
  refine wt_H_if (fun c => ?_) (fun c => wt_H_if (fun d => ?_) (fun d => ?_))
  · have := wt_clt c
    exact wt_H_some ⟨rfl, Or.inr ⟨rfl, by omega⟩⟩
  · have := wt_cle d
    exact wt_H_some ⟨rfl, Or.inr ⟨rfl, by omega⟩⟩
  · have := wt_ncl c
    have := wt_ncle d
    exact wt_H_some ⟨rfl, Or.inl ⟨rfl, by omega, by omega⟩⟩
theorem wh_isText (n : Nat) {x : Int32} {z : wt_St} (h0 : 0 ≤ (wt_gf z 108 39).toInt) (h1 : (wt_gf z 108 39).toInt ≤ 8) : wt_H (wp_md_isText n x z) (fun q => q.2 = z ∧ ((q.1 = 1 ∧ 0 ≤ x.toInt ∧ x.toInt < (wt_gf z 108 39).toInt) ∨ (q.1 = 0 ∧ (x.toInt < 0 ∨ (wt_gf z 108 39).toInt ≤ x.toInt)))) := by
  have k0 : (0 : Int32).toInt = 0 := by decide
  have k1 : (1 : Int32).toInt = 1 := by decide
  have es := wt_subE (x := wt_gf z 108 39) (y := (1 : Int32)) (by omega) (by omega)
  unfold wp_md_isText
  refine wt_H_bh (wh_in n) (fun q hq => wt_H_some ⟨hq.1, ?_⟩)
  rcases hq.2 with ⟨a, b⟩ | ⟨a, b, c⟩
  · exact Or.inr ⟨a, by omega⟩
  · exact Or.inl ⟨a, by omega, by omega⟩
theorem wh_isWordNumber (n : Nat) {x : Int32} {z : wt_St} (h0 : 0 ≤ (wt_gf z 108 28).toInt) (h1 : (wt_gf z 108 28).toInt ≤ 60) : wt_H (wp_md_isWordNumber n x z) (fun q => q.2 = z ∧ ((q.1 = 1 ∧ 0 ≤ x.toInt ∧ x.toInt < (wt_gf z 108 28).toInt) ∨ (q.1 = 0 ∧ (x.toInt < 0 ∨ (wt_gf z 108 28).toInt ≤ x.toInt)))) := by
  have k0 : (0 : Int32).toInt = 0 := by decide
  have k1 : (1 : Int32).toInt = 1 := by decide
  have es := wt_subE (x := wt_gf z 108 28) (y := (1 : Int32)) (by omega) (by omega)
  unfold wp_md_isWordNumber
  refine wt_H_bh (wh_in n) (fun q hq => wt_H_some ⟨hq.1, ?_⟩)
  rcases hq.2 with ⟨a, b⟩ | ⟨a, b, c⟩
  · exact Or.inr ⟨a, by omega⟩
  · exact Or.inl ⟨a, by omega, by omega⟩
theorem wh_miss0 (n : Nat) {σ : wt_St} : wt_H (wp_ap_miss n (0 : Int32) σ) (fun q => q = (0, 0, σ)) := by
  unfold wp_ap_miss
  rw [if_pos rfl]
  exact wt_H_some rfl
theorem wh_miss1 (n : Nat) {σ : wt_St} : wt_H (wp_ap_miss n (1 : Int32) σ) (fun q => q = (2, 0, σ)) := by
  unfold wp_ap_miss
  rw [if_neg (by decide)]
  exact wt_H_some rfl
theorem wh_copies (n : Nat) {x : Int32} {σ : wt_St} : wt_H (wp_ap_refuseCopies n x σ) (fun q => (q = (0, 0, σ) ∧ 1 ≤ x.toInt ∧ x.toInt ≤ 400) ∨ (q = (1, 0, σ) ∧ (x.toInt < 1 ∨ 400 < x.toInt))) := by
  have k1 : (1 : Int32).toInt = 1 := by decide
  have k400 : (400 : Int32).toInt = 400 := by decide
  unfold wp_ap_refuseCopies wp_ap_refuseCopies_B12 wp_ap_refuseCopies_B17
  have B : (x.toInt < 1 ∨ 400 < x.toInt) → wt_H ((wp_ap_refuse n (1 : Int32) σ).bind fun q2 => if q2.1 = 0 then some ((0 : Nat), (0 : Int32), q2.2.2) else some (q2.1, (0 : Int32), q2.2.2)) (fun q => (q = (0, 0, σ) ∧ 1 ≤ x.toInt ∧ x.toInt ≤ 400) ∨ (q = (1, 0, σ) ∧ (x.toInt < 1 ∨ 400 < x.toInt))) := fun hx => by
    refine wt_H_bh (wh_refuse1 n) (fun q hq => ?_)
    subst hq
    dsimp only
    rw [if_neg (by decide)]
    exact wt_H_some (Or.inr ⟨rfl, hx⟩)
  refine wt_H_if (fun c => B (by have := wt_clt c; omega)) (fun c => wt_H_if (fun d => ?_) (fun d => B (by have := wt_ncle d; omega)))
  have := wt_ncl c
  have := wt_cle d
  refine wt_H_bh (wh_refuse0 n) (fun q hq => ?_)
  subst hq
  dsimp only
  rw [if_pos rfl]
  exact wt_H_some (Or.inl ⟨rfl, by omega, by omega⟩)
theorem wh_isCopies (n : Nat) {x : Int32} {z : wt_St} : wt_H (wp_md_isCopies n x z) (fun q => q.2 = z ∧ ((q.1 = 1 ∧ 1 ≤ x.toInt ∧ x.toInt ≤ 400) ∨ (q.1 = 0 ∧ (x.toInt < 1 ∨ 400 < x.toInt)))) := by
  have k1 : (1 : Int32).toInt = 1 := by decide
  have k400 : (400 : Int32).toInt = 400 := by decide
  unfold wp_md_isCopies
  refine wt_H_bh (wh_in n) (fun q hq => wt_H_some ⟨hq.1, ?_⟩)
  rcases hq.2 with ⟨a, b⟩ | ⟨a, b, c⟩
  · exact Or.inr ⟨a, by omega⟩
  · exact Or.inl ⟨a, by omega, by omega⟩
/-- the i-th word of a text -/
theorem wh_wordAt (n : Nat) (hn : 4294967297 < n) {t m : Nat} {x1 x2 : Int32} {s : wt_St} (h1 : x1.toInt = (t : Int)) (ht : t < 8) (hm : (wt_ga s 36 t).toInt = (m : Int)) (hm12 : m ≤ 12) : wt_H (wp_tx_wordAt n x1 x2 s) (fun q => q.2 = s ∧ ((∃ i : Nat, x2.toInt = (i : Int) ∧ i < m ∧ q.1 = wt_ga s 35 (12 * t + i)) ∨ ((x2.toInt < 0 ∨ (m : Int) ≤ x2.toInt) ∧ q.1 = -1))) := by
  have k0 : (0 : Int32).toInt = 0 := by decide
  have k12 : (12 : Int32).toInt = 12 := by decide
  unfold wp_tx_wordAt wp_tx_lengthOf
  refine wt_H_if (fun c => ?_) (fun c => ?_)
  · have := wt_clt c
    exact wt_H_some ⟨rfl, Or.inr ⟨by omega, rfl⟩⟩
  · have c' := wt_ncl c
    simp only [Option.bind_assoc]
    refine wt_H_bh (wh_look n hn (k := t) h1 (by rw [show wt_ln 36 = 8 from by decide]; exact ht)) (fun q hq => ?_)
    subst hq
    show wt_H (if wt_ga s 36 t ≤ x2 then some ((-1 : Int32), s) else (wp_ap_look n 35 ((x1 * (12 : Int32)) + x2) s).bind fun q4 => some (q4.1, q4.2)) _
    refine wt_H_if (fun d => ?_) (fun d => ?_)
    · have := wt_cle d
      exact wt_H_some ⟨rfl, Or.inr ⟨by omega, rfl⟩⟩
    · have d' := wt_ncle d
      have e2 := wt_tnI (x := x2) (by omega)
      have em := wt_mulR (x := x1) k12 (by omega) (by omega)
      have ea := wt_addE (x := x1 * (12 : Int32)) (y := x2) (by omega) (by omega)
      refine wt_H_bh (wh_look n hn (k := 12 * t + Int32.toNatClampNeg x2) (by omega) (by rw [show wt_ln 35 = 96 from by decide]; omega)) (fun q hq => ?_)
      subst hq
      exact wt_H_some ⟨rfl, Or.inl ⟨Int32.toNatClampNeg x2, by omega, by omega, rfl⟩⟩
/-- at, on both sides -/
theorem wr_at (n : Nat) (hn : 4294967297 < n) {x1 x2 : Int32} {s z : wt_St} (rz : wt_RI z) (tx : wu_TX s z) : wt_HH (wp_ap_at n x1 x2 s) (wp_md_at n x1 x2 z) (fun q y => (q.1 = 2 ∧ wt_gf y.2 108 0 = 1) ∨ (q.1 = 0 ∧ wt_gf y.2 108 0 = 0 ∧ q.2.1 = y.1)) := by
  have k0 : (0 : Int32).toInt = 0 := by decide
  have k1 : (1 : Int32).toInt = 1 := by decide
  have hz : 0 ≤ (wt_gf z 108 39).toInt ∧ (wt_gf z 108 39).toInt ≤ 8 := wt_R_gf rz 7 rfl
  unfold wp_ap_at wp_md_at
  obtain ⟨z0, ε0⟩ : ∃ o : wt_St, o = wt_sf z 108 0 (0 : Int32) := ⟨_, rfl⟩
  rw [← ε0]
  have g0 := wt_fr_sf ε0
  have t0 : wt_gf z0 108 0 = 0 := wt_v_sf ε0
  have e39 : wt_gf z0 108 39 = wt_gf z 108 39 := g0.1 108 39 (by decide)
  refine wt_HH_l (wh_txhas n) (fun q1 h1 => ?_)
  obtain ⟨a1, b1⟩ := h1
  rw [a1]
  refine wt_HH_r (wh_isText n (by rw [e39]; exact hz.1) (by rw [e39]; exact hz.2)) (fun y1 h1' => ?_)
  obtain ⟨a2, b2⟩ := h1'
  rw [a2]
  rw [e39] at b2
  have eT := wt_ceq tx.1
  unfold wp_ap_at_B16 wp_md_at_B19
  rcases b1 with ⟨c1, c2, c3⟩ | ⟨c1, c2⟩
  · rcases b2 with ⟨d1, -, -⟩ | ⟨d1, d2⟩
    · rw [if_neg (by rw [c1]; decide), if_neg (by rw [d1]; decide)]
      refine wt_HH_l (wh_miss0 n) (fun q hq => ?_)
      subst hq
      dsimp only
      rw [if_pos rfl]
      refine wt_HH_r (wh_bad0 n t0) (fun y hy => ?_)
      subst hy
      dsimp only
      rw [if_pos rfl]
      have et := wt_tnI c2
      obtain ⟨m, m1, m2, m3, m4, m5, m6⟩ := tx.2 (Int32.toNatClampNeg x1) (by omega)
      have e253 : wt_ga z0 253 (Int32.toNatClampNeg x1) = wt_ga s 36 (Int32.toNatClampNeg x1) := (g0.2 253 (fun h => h) _).trans m2
      refine wt_HH_l (wh_wordAt n hn (t := Int32.toNatClampNeg x1) (m := m) (by omega) (by omega) m1 m4) (fun q4 h4 => ?_)
      obtain ⟨e4, h4⟩ := h4
      refine wt_HH_gr (fun _ => ?_)
      rw [e253]
      have es := wt_subE (x := wt_ga s 36 (Int32.toNatClampNeg x1)) (y := (1 : Int32)) (by omega) (by omega)
      refine wt_HH_r (wh_in n) (fun y6 h6 => ?_)
      obtain ⟨f1, f2⟩ := h6
      rw [f1]
      rcases h4 with ⟨i, i1, i2, i3⟩ | ⟨i1, i2⟩
      · rcases f2 with ⟨f2, f3⟩ | ⟨f2, -⟩
        · omega
        · rw [if_neg (by rw [f2]; decide)]
          refine wt_HH_gr (fun _ => ?_)
          refine wt_HH_gr (fun _ => ?_)
          refine wt_HH_some (Or.inr ⟨rfl, t0, ?_⟩)
          show q4.1 = wt_ga z0 (255 + Int32.toNatClampNeg x1) (Int32.toNatClampNeg x2)
          rw [g0.2 _ (fun h => h), i3, (m5 i i2).1, wt_tnN i1]
      · rcases f2 with ⟨f2, f3⟩ | ⟨f2, f3, f4⟩
        · rw [if_pos f2]
          exact wt_HH_some (Or.inr ⟨rfl, t0, i2⟩)
        · omega
    · omega
  · rcases b2 with ⟨d1, d2, d3⟩ | ⟨d1, -⟩
    · omega
    · rw [if_pos c1, if_pos d1]
      refine wt_HH_l (wh_miss1 n) (fun q hq => ?_)
      subst hq
      dsimp only
      rw [if_neg (by decide)]
      refine wt_HH_r (wh_bad1 n t0 (by decide)) (fun y hy => ?_)
      subst hy
      dsimp only
      rw [if_neg (by decide)]
      exact wt_HH_some (Or.inl ⟨rfl, wt_v_sf rfl⟩)
theorem wa1_at (n : Nat) (hn : 4294967297 < n) {σ : wt_St} (x1 x2 : Int32) (v : wt_IV σ) (j : wu_Q1 σ) : wt_H (wp_ap_at n x1 x2 σ) (fun q => wt_H (wp_md_at n x1 x2 q.2.2) (fun r => ((q.1 = 2 ∧ wt_gf r.2 108 0 = 1) ∨ (q.1 = 0 ∧ wt_gf r.2 108 0 = 0 ∧ q.2.1 = r.1)) ∧ wu_Q1 r.2)) := by
  intro q hq r hr
  obtain ⟨q', hq', hfq⟩ := wq_ap_at n hn x1 x2 σ
  rw [hq] at hq'
  cases hq'
  have e := hfq.1
  rw [e] at hr
  refine ⟨wr_at n hn v.1 j.2.1 q r hq hr, ?_⟩
  have := wk1_at n hn x1 x2 v j q hq r
  rw [e] at this
  exact this hr
theorem wa1_fault (n : Nat) (hn : 4294967297 < n) {σ : wt_St} (v : wt_IV σ) (j : wu_Q1 σ) : wt_H (wp_ap_fault n σ) (fun q => wt_H (wp_md_fault n q.2) (fun r => q.1 = r.1 ∧ wu_Q1 r.2)) := by
  intro q hq r hr
  refine ⟨?_, wk1_fault n hn v j q hq r hr⟩
  unfold wp_ap_fault at hq
  cases hq
  unfold wp_md_fault at hr
  cases hr
  show wt_gf σ 1 7 = wt_gf (wt_sf σ 108 0 (0 : Int32)) 108 3
  rw [(wt_fr_sf rfl : wt_fr _ _ σ (wt_sf σ 108 0 (0 : Int32))).1 108 3 (by decide)]
  exact j.2.2.1
theorem wa1_count (n : Nat) (hn : 4294967297 < n) {σ : wt_St} (x1 : Int32) (v : wt_IV σ) (ti : (wt_gf σ 1 2).toInt = (wt_gf σ 108 1).toInt) (j : wu_Q1 σ) : wt_H (wp_ap_count n x1 σ) (fun q => wt_H (wp_md_count n x1 q.2) (fun r => q.1 = r.1 ∧ wu_Q1 r.2)) := by
  intro q hq r hr
  refine ⟨?_, wk1_count n hn x1 v j q hq r hr⟩
  have f0 : wt_fr _ _ σ (wt_sf σ 108 0 (0 : Int32)) := wt_fr_sf rfl
  unfold wp_ap_count at hq
  unfold wp_md_count at hr
  by_cases h0 : x1 = 0
  · rw [if_pos h0] at hq
    cases hq
    rw [if_pos h0] at hr
    cases hr
    show wt_gf σ 0 14 = wt_gf (wt_sf σ 108 0 (0 : Int32)) 108 41
    rw [f0.1 108 41 (by decide)]
    exact j.2.2.2
  · rw [if_neg h0] at hq hr
    by_cases h1 : x1 = (1 : Int32)
    · rw [if_pos h1] at hq
      cases hq
      rw [if_pos h1] at hr
      cases hr
      show wt_gf σ 1 2 = wt_gf (wt_sf σ 108 0 (0 : Int32)) 108 1
      rw [f0.1 108 1 (by decide)]
      exact wt_eqI ti
    · rw [if_neg h1] at hq hr
      cases hq
      cases hr
      rfl
end WTQ2
-- 94a.moves.lean.txt
section WTQ3
/-! an image is laid into a row, or taken out of it: row and state are alike then -/
theorem wh_moves (n : Nat) {a1 p : Nat} {x2 x3 : Int32} {s : wt_St} (hp : (wt_gf s 108 42).toInt = (p : Int)) (hp2 : p < 1158) : wt_H (wp_md_moves n a1 x2 x3 s) (fun q => wt_fr (fun i k => i = 108 ∧ k = 42) (fun i => i = a1) s q.2 ∧ (wt_gf q.2 108 42).toInt = ((p + 1 : Nat) : Int) ∧ q.1 = wt_ga q.2 a1 p ∧ ∀ j, j ≠ p → wt_ga q.2 a1 j = wt_ga s a1 j) := by
  have k1 : (1 : Int32).toInt = 1 := by decide
  have ep : Int32.toNatClampNeg (wt_gf s 108 42) = p := wt_tnN hp
  have B : ∀ s' : wt_St, wt_fr (fun _ _ => False) (fun i => i = a1) s s' → (∀ j, j ≠ p → wt_ga s' a1 j = wt_ga s a1 j) → wt_H (wp_md_moves_B11 n a1 s') (fun q => wt_fr (fun i k => i = 108 ∧ k = 42) (fun i => i = a1) s q.2 ∧ (wt_gf q.2 108 42).toInt = ((p + 1 : Nat) : Int) ∧ q.1 = wt_ga q.2 a1 p ∧ ∀ j, j ≠ p → wt_ga q.2 a1 j = wt_ga s a1 j) := by
    intro s' f' o'
    unfold wp_md_moves_B11
    have e42 : wt_gf s' 108 42 = wt_gf s 108 42 := f'.1 108 42 (fun h => h)
    rw [e42]
    obtain ⟨s1, ε1⟩ : ∃ o : wt_St, o = wt_sf s' 108 42 ((wt_gf s 108 42) + (1 : Int32)) := ⟨_, rfl⟩
    rw [← ε1]
    have f1 := wt_fr_sf ε1
    have v1 := wt_v_sf ε1
    have ei := wt_i1 (c := wt_gf s 108 42) (by omega)
    have es := wt_subE (x := wt_gf s1 108 42) (y := (1 : Int32)) (by rw [v1]; omega) (by rw [v1]; omega)
    have ee : (wt_gf s1 108 42) - (1 : Int32) = wt_gf s 108 42 := wt_eqI (by rw [es, v1]; omega)
    rw [ee, ep]
    refine wt_H_gd (fun _ => wt_H_some ⟨(wt_frw f' (fun i k h => h.elim) (fun i h => h)).sf ε1 ⟨rfl, rfl⟩, ?_, rfl, fun j hj => ?_⟩)
    · show (wt_gf s1 108 42).toInt = _
      rw [v1]; omega
    · show wt_ga s1 a1 j = _
      rw [f1.2 a1 (fun h => h)]; exact o' j hj
  unfold wp_md_moves
  refine wt_H_if (fun _ => ?_) (fun _ => B s wt_fr.rf (fun _ _ => rfl))
  refine wt_H_gd (fun _ => ?_)
  rw [ep]
  exact B _ (wt_frw (wt_fr_sa rfl) (fun i k h => h) (fun i h => h)) (fun j hj => wt_w_sa rfl j hj)
/-- habit, wants, pieces: as the row has them -/
def wu_E1 (a1 m : Nat) (s : wt_St) : Prop := wt_gf s 108 26 = wt_ga s a1 0 ∧ wt_gf s 108 40 = wt_ga s a1 1 ∧ ∀ k, k < m → wt_ga s 121 k = wt_ga s a1 (2 + 2 * k) ∧ wt_ga s 124 k = wt_ga s a1 (3 + 2 * k)
theorem wu_E1_fr {a1 m p : Nat} {s s' : wt_St} {F : Nat → Nat → Prop} {A : Nat → Prop} (h : wu_E1 a1 m s) (f : wt_fr F A s s') (hF : ¬ F 108 26 ∧ ¬ F 108 40) (hA : ¬ A 121 ∧ ¬ A 124) (o : ∀ j, j < p → wt_ga s' a1 j = wt_ga s a1 j) (hp : 2 + 2 * m ≤ p) : wu_E1 a1 m s' := by
  obtain ⟨a, b, c⟩ := h
  refine ⟨by rw [f.1 108 26 hF.1, o 0 (by omega)]; exact a, by rw [f.1 108 40 hF.2, o 1 (by omega)]; exact b, fun k hk => ?_⟩
  rw [f.2 121 hA.1, f.2 124 hA.2, o _ (by omega), o _ (by omega)]
  exact c k hk
def wu_E4 (a1 m : Nat) (s : wt_St) : Prop := ∀ w j, j < 4 → 4 * w + j < m → wt_ga s (264 + w) j = wt_ga s a1 (1118 + 4 * w + j)
set_option maxRecDepth 100000 in
set_option maxHeartbeats 8000000 in
theorem wh_movesAll (n : Nat) {a1 : Nat} {x2 : Int32} {σ : wt_St} (h1 : 283 ≤ a1) (h2 : a1 < 286) : wt_H (wp_md_movesAll n a1 x2 σ) (fun q => wu_E1 a1 338 q ∧ wu_E4 a1 40 q) := by
  have k0 : (0 : Int32).toInt = 0 := by decide
  have k4 : (4 : Int32).toInt = 4 := by decide
  have k10 : (10 : Int32).toInt = 10 := by decide
  have k108 : (108 : Int32).toInt = 108 := by decide
  have k338 : (338 : Int32).toInt = 338 := by decide
  -- the wants
  have W : ∀ s : wt_St, (wt_gf s 108 42).toInt = 1118 → wu_E1 a1 338 s → wt_H (wt_it (wp_md_movesAll_B175 n a1 x2) n ((0 : Int32), s)) (fun q => wu_E1 a1 338 q ∧ wu_E4 a1 40 q) := by
    intro s hs he
    refine wt_H_it (fun t : Int32 × wt_St => 0 ≤ t.1.toInt ∧ t.1.toInt ≤ 10 ∧ (wt_gf t.2 108 42).toInt = 1118 + 4 * t.1.toInt ∧ wu_E1 a1 338 t.2 ∧ wu_E4 a1 (4 * Int32.toNatClampNeg t.1) t.2) (fun K t I hK => ?_) n _ ⟨by show 0 ≤ ((0 : Int32)).toInt; omega, by show ((0 : Int32)).toInt ≤ 10; omega, by show (wt_gf s 108 42).toInt = 1118 + 4 * ((0 : Int32)).toInt; rw [k0]; omega, he, fun w j _ hj => absurd hj (by show ¬ 4 * w + j < 4 * Int32.toNatClampNeg (0 : Int32); rw [wt_tn0]; omega)⟩
    obtain ⟨i0, i1, i2, i3, i4⟩ := I
    have et := wt_tnI i0
    unfold wp_md_movesAll_B175
    refine wt_H_if (fun c => ?_) (fun c => ?_)
    · have c' := wt_cle c
      have e10 : 4 * Int32.toNatClampNeg t.1 = 40 := by omega
      rw [e10] at i4
      exact wt_H_some ⟨i3, i4⟩
    · have c' := wt_ncle c
      have ei := wt_i1 (c := t.1) (by omega)
      refine wt_H_it (fun u : Int32 × wt_St => 0 ≤ u.1.toInt ∧ u.1.toInt ≤ 4 ∧ (wt_gf u.2 108 42).toInt = 1118 + 4 * t.1.toInt + u.1.toInt ∧ wu_E1 a1 338 u.2 ∧ wu_E4 a1 (4 * Int32.toNatClampNeg t.1 + Int32.toNatClampNeg u.1) u.2) (fun K2 u J hK2 => ?_) n _ ⟨by show 0 ≤ ((0 : Int32)).toInt; omega, by show ((0 : Int32)).toInt ≤ 4; omega, by show (wt_gf t.2 108 42).toInt = 1118 + 4 * t.1.toInt + ((0 : Int32)).toInt; rw [k0]; omega, i3, by show wu_E4 a1 (4 * Int32.toNatClampNeg t.1 + Int32.toNatClampNeg (0 : Int32)) _; rw [wt_tn0]; exact i4⟩
      obtain ⟨j0, j1, j2, j3, j4⟩ := J
      have eu := wt_tnI j0
      unfold wp_md_movesAll_B184
      refine wt_H_if (fun d => ?_) (fun d => ?_)
      · have d' := wt_cle d
        refine hK _ ⟨by show 0 ≤ (t.1 + (1 : Int32)).toInt; omega, by show (t.1 + (1 : Int32)).toInt ≤ 10; omega, by show (wt_gf u.2 108 42).toInt = 1118 + 4 * (t.1 + (1 : Int32)).toInt; omega, j3, ?_⟩
        show wu_E4 a1 (4 * Int32.toNatClampNeg (t.1 + (1 : Int32))) u.2
        have e5 : 4 * Int32.toNatClampNeg (t.1 + (1 : Int32)) = 4 * Int32.toNatClampNeg t.1 + Int32.toNatClampNeg u.1 := by have := wt_tnI (x := t.1 + (1 : Int32)) (by omega); omega
        rw [e5]
        exact j4
      · have d' := wt_ncle d
        have ej := wt_i1 (c := u.1) (by omega)
        refine wt_H_gd (fun _ => ?_)
        refine wt_H_gd (fun _ => ?_)
        refine wt_H_gd (fun _ => ?_)
        refine wt_H_bh (wh_moves n (p := 1118 + 4 * Int32.toNatClampNeg t.1 + Int32.toNatClampNeg u.1) (by omega) (by omega)) (fun q hq => ?_)
        obtain ⟨fq, q1, q2, q3⟩ := hq
        refine wt_H_gd (fun _ => ?_)
        obtain ⟨s1, ε⟩ : ∃ o : wt_St, o = wt_sa q.2 (264 + Int32.toNatClampNeg t.1) (Int32.toNatClampNeg u.1) q.1 := ⟨_, rfl⟩
        rw [← ε]
        have f1 := wt_fr_sa ε
        have a1s : ∀ j, wt_ga s1 a1 j = wt_ga q.2 a1 j := f1.2 a1 (by (try dsimp only); omega)
        have FF : wt_fr (fun i k => i = 108 ∧ k = 42) (fun i => i = a1 ∨ i = 264 + Int32.toNatClampNeg t.1) u.2 s1 := wt_fr.sa (wt_frw fq (fun i k h => h) (fun i h => Or.inl h)) ε (Or.inr rfl)
        refine hK2 _ ⟨by show 0 ≤ (u.1 + (1 : Int32)).toInt; omega, by show (u.1 + (1 : Int32)).toInt ≤ 4; omega, ?_, wu_E1_fr (p := 678) j3 FF ⟨by decide, by decide⟩ ⟨by (try dsimp only); omega, by (try dsimp only); omega⟩ (fun j hj => by rw [a1s]; exact q3 j (by omega)) (by omega), fun w j hj hw => ?_⟩
        · show (wt_gf s1 108 42).toInt = 1118 + 4 * t.1.toInt + (u.1 + (1 : Int32)).toInt
          rw [f1.1 108 42 (fun h => h)]; omega
        · have hw' : 4 * w + j < 4 * Int32.toNatClampNeg t.1 + Int32.toNatClampNeg (u.1 + (1 : Int32)) := hw
          have eu1 : Int32.toNatClampNeg (u.1 + (1 : Int32)) = Int32.toNatClampNeg u.1 + 1 := by have := wt_tnI (x := u.1 + (1 : Int32)) (by omega); omega
          show wt_ga s1 (264 + w) j = wt_ga s1 a1 (1118 + 4 * w + j)
          rw [a1s]
          by_cases hc : w = Int32.toNatClampNeg t.1 ∧ j = Int32.toNatClampNeg u.1
          · rw [hc.1, hc.2, wt_v_sa ε, q2]
          · have e9 : wt_ga s1 (264 + w) j = wt_ga u.2 (264 + w) j := by
              by_cases hc2 : w = Int32.toNatClampNeg t.1
              · rw [hc2, wt_w_sa ε j (fun h => hc ⟨hc2, h⟩)]
                exact fq.2 _ (by (try dsimp only); omega) j
              · rw [f1.2 (264 + w) (by (try dsimp only); omega)]
                by_cases hc3 : 264 + w = a1
                · omega
                · exact fq.2 _ hc3 j
            rw [e9, q3 _ (by omega)]
            exact j4 w j hj (by omega)
  -- the pages
  have PGS : ∀ s : wt_St, (wt_gf s 108 42).toInt = 678 → wu_E1 a1 338 s → wt_H (wt_it (wp_md_movesAll_B86 n a1 x2) n ((0 : Int32), s)) (fun q => wu_E1 a1 338 q ∧ wu_E4 a1 40 q) := by
    intro s hs he
    refine wt_H_it (fun t : Int32 × wt_St => 0 ≤ t.1.toInt ∧ t.1.toInt ≤ 4 ∧ (wt_gf t.2 108 42).toInt = 678 + 110 * t.1.toInt ∧ wu_E1 a1 338 t.2) (fun K t I hK => ?_) n _ ⟨by show 0 ≤ ((0 : Int32)).toInt; omega, by show ((0 : Int32)).toInt ≤ 4; omega, by show (wt_gf s 108 42).toInt = 678 + 110 * ((0 : Int32)).toInt; rw [k0]; omega, he⟩
    obtain ⟨i0, i1, i2, i3⟩ := I
    have et := wt_tnI i0
    unfold wp_md_movesAll_B86
    refine wt_H_if (fun c => ?_) (fun c => ?_)
    · have c' := wt_cle c
      exact W t.2 (by omega) i3
    · have c' := wt_ncle c
      have ei := wt_i1 (c := t.1) (by omega)
      refine wt_H_gd (fun _ => ?_)
      refine wt_H_bh (wh_moves n (p := 678 + 110 * Int32.toNatClampNeg t.1) (by omega) (by omega)) (fun q hq => ?_)
      obtain ⟨fq, q1, q2, q3⟩ := hq
      refine wt_H_gd (fun _ => ?_)
      refine wt_H_gd (fun _ => ?_)
      obtain ⟨s1, ε1⟩ : ∃ o : wt_St, o = wt_sa q.2 275 (Int32.toNatClampNeg t.1) q.1 := ⟨_, rfl⟩
      rw [← ε1]
      have f1 := wt_fr_sa ε1
      have a1s : ∀ j, wt_ga s1 a1 j = wt_ga q.2 a1 j := f1.2 a1 (by (try dsimp only); omega)
      have e1 : wu_E1 a1 338 s1 := wu_E1_fr (p := 678) i3 (wt_fr.sa (A := fun i => i = a1 ∨ i = 275) (wt_frw fq (fun i k h => h) (fun i h => Or.inl h)) ε1 (Or.inr rfl)) ⟨by decide, by decide⟩ ⟨by (try dsimp only); omega, by (try dsimp only); omega⟩ (fun j hj => by rw [a1s]; exact q3 j (by omega)) (by omega)
      refine wt_H_bh (wh_moves n (p := 679 + 110 * Int32.toNatClampNeg t.1) (by rw [f1.1 108 42 (fun h => h)]; omega) (by omega)) (fun q' hq' => ?_)
      obtain ⟨fq', q1', q2', q3'⟩ := hq'
      refine wt_H_gd (fun _ => ?_)
      obtain ⟨s2, ε2⟩ : ∃ o : wt_St, o = wt_sa q'.2 276 (Int32.toNatClampNeg t.1) q'.1 := ⟨_, rfl⟩
      rw [← ε2]
      have f2 := wt_fr_sa ε2
      have a2s : ∀ j, wt_ga s2 a1 j = wt_ga q'.2 a1 j := f2.2 a1 (by (try dsimp only); omega)
      have e2 : wu_E1 a1 338 s2 := wu_E1_fr (p := 678) e1 (wt_fr.sa (A := fun i => i = a1 ∨ i = 276) (wt_frw fq' (fun i k h => h) (fun i h => Or.inl h)) ε2 (Or.inr rfl)) ⟨by decide, by decide⟩ ⟨by (try dsimp only); omega, by (try dsimp only); omega⟩ (fun j hj => by rw [a2s]; exact q3' j (by omega)) (by omega)
      refine wt_H_it (fun u : Int32 × wt_St => 0 ≤ u.1.toInt ∧ u.1.toInt ≤ 108 ∧ (wt_gf u.2 108 42).toInt = 680 + 110 * t.1.toInt + u.1.toInt ∧ wu_E1 a1 338 u.2) (fun K2 u J hK2 => ?_) n _ ⟨by show 0 ≤ ((0 : Int32)).toInt; omega, by show ((0 : Int32)).toInt ≤ 108; omega, by show (wt_gf s2 108 42).toInt = 680 + 110 * t.1.toInt + ((0 : Int32)).toInt; rw [f2.1 108 42 (fun h => h)]; omega, e2⟩
      obtain ⟨j0, j1, j2, j3⟩ := J
      have eu := wt_tnI j0
      unfold wp_md_movesAll_B130
      refine wt_H_if (fun d => ?_) (fun d => ?_)
      · have d' := wt_cle d
        exact hK _ ⟨by show 0 ≤ (t.1 + (1 : Int32)).toInt; omega, by show (t.1 + (1 : Int32)).toInt ≤ 4; omega, by show (wt_gf u.2 108 42).toInt = 678 + 110 * (t.1 + (1 : Int32)).toInt; omega, j3⟩
      · have d' := wt_ncle d
        have ej := wt_i1 (c := u.1) (by omega)
        refine wt_H_gd (fun _ => ?_)
        refine wt_H_gd (fun _ => ?_)
        refine wt_H_gd (fun _ => ?_)
        refine wt_H_bh (wh_moves n (p := 680 + 110 * Int32.toNatClampNeg t.1 + Int32.toNatClampNeg u.1) (by omega) (by omega)) (fun q hq => ?_)
        obtain ⟨fq, q1, q2, q3⟩ := hq
        refine wt_H_gd (fun _ => ?_)
        obtain ⟨s3, ε3⟩ : ∃ o : wt_St, o = wt_sa q.2 (278 + Int32.toNatClampNeg t.1) (Int32.toNatClampNeg u.1) q.1 := ⟨_, rfl⟩
        rw [← ε3]
        have f3 := wt_fr_sa ε3
        have a3s : ∀ j, wt_ga s3 a1 j = wt_ga q.2 a1 j := f3.2 a1 (by (try dsimp only); omega)
        refine hK2 _ ⟨by show 0 ≤ (u.1 + (1 : Int32)).toInt; omega, by show (u.1 + (1 : Int32)).toInt ≤ 108; omega, ?_, wu_E1_fr (p := 678) j3 (wt_fr.sa (A := fun i => i = a1 ∨ i = 278 + Int32.toNatClampNeg t.1) (wt_frw fq (fun i k h => h) (fun i h => Or.inl h)) ε3 (Or.inr rfl)) ⟨by decide, by decide⟩ ⟨by (try dsimp only); omega, by (try dsimp only); omega⟩ (fun j hj => by rw [a3s]; exact q3 j (by omega)) (by omega)⟩
        show (wt_gf s3 108 42).toInt = 680 + 110 * t.1.toInt + (u.1 + (1 : Int32)).toInt
        rw [f3.1 108 42 (fun h => h)]; omega
  unfold wp_md_movesAll
  obtain ⟨s0, ε0⟩ : ∃ o : wt_St, o = wt_sf σ 108 42 (0 : Int32) := ⟨_, rfl⟩
  rw [← ε0]
  refine wt_H_bh (wh_moves n (p := 0) (by rw [wt_v_sf ε0]; exact k0) (by omega)) (fun q hq => ?_)
  obtain ⟨fq, q1, q2, q3⟩ := hq
  obtain ⟨s1, ε1⟩ : ∃ o : wt_St, o = wt_sf q.2 108 26 q.1 := ⟨_, rfl⟩
  rw [← ε1]
  have f1 := wt_fr_sf ε1
  refine wt_H_bh (wh_moves n (p := 1) (by rw [f1.1 108 42 (by decide)]; exact q1) (by omega)) (fun q' hq' => ?_)
  obtain ⟨fq', q1', q2', q3'⟩ := hq'
  obtain ⟨s2, ε2⟩ : ∃ o : wt_St, o = wt_sf q'.2 108 40 q'.1 := ⟨_, rfl⟩
  rw [← ε2]
  have f2 := wt_fr_sf ε2
  have e2 : wu_E1 a1 0 s2 := by
    refine ⟨?_, ?_, fun k hk => absurd hk (by omega)⟩
    · rw [f2.1 108 26 (by decide), fq'.1 108 26 (by decide), wt_v_sf ε1, f2.2 a1 (fun h => h), q3' 0 (by omega), f1.2 a1 (fun h => h)]; exact q2
    · rw [wt_v_sf ε2, f2.2 a1 (fun h => h)]; exact q2'
  refine wt_H_it (fun t : Int32 × wt_St => 0 ≤ t.1.toInt ∧ t.1.toInt ≤ 338 ∧ (wt_gf t.2 108 42).toInt = 2 + 2 * t.1.toInt ∧ wu_E1 a1 (Int32.toNatClampNeg t.1) t.2) (fun K t I hK => ?_) n _ ⟨by show 0 ≤ ((0 : Int32)).toInt; omega, by show ((0 : Int32)).toInt ≤ 338; omega, by show (wt_gf s2 108 42).toInt = 2 + 2 * ((0 : Int32)).toInt; rw [f2.1 108 42 (by decide)]; omega, by show wu_E1 a1 (Int32.toNatClampNeg (0 : Int32)) s2; rw [wt_tn0]; exact e2⟩
  obtain ⟨i0, i1, i2, i3⟩ := I
  have et := wt_tnI i0
  unfold wp_md_movesAll_B35
  refine wt_H_if (fun c => ?_) (fun c => ?_)
  · have c' := wt_cle c
    have e338 : Int32.toNatClampNeg t.1 = 338 := by omega
    rw [e338] at i3
    exact PGS t.2 (by omega) i3
  · have c' := wt_ncle c
    have ei := wt_i1 (c := t.1) (by omega)
    refine wt_H_gd (fun _ => ?_)
    refine wt_H_bh (wh_moves n (p := 2 + 2 * Int32.toNatClampNeg t.1) (by omega) (by omega)) (fun q hq => ?_)
    obtain ⟨fq, q1, q2, q3⟩ := hq
    refine wt_H_gd (fun _ => ?_)
    refine wt_H_gd (fun _ => ?_)
    obtain ⟨s3, ε3⟩ : ∃ o : wt_St, o = wt_sa q.2 121 (Int32.toNatClampNeg t.1) q.1 := ⟨_, rfl⟩
    rw [← ε3]
    have f3 := wt_fr_sa ε3
    refine wt_H_bh (wh_moves n (p := 3 + 2 * Int32.toNatClampNeg t.1) (by rw [f3.1 108 42 (fun h => h)]; omega) (by omega)) (fun q' hq' => ?_)
    obtain ⟨fq', q1', q2', q3'⟩ := hq'
    refine wt_H_gd (fun _ => ?_)
    obtain ⟨s4, ε4⟩ : ∃ o : wt_St, o = wt_sa q'.2 124 (Int32.toNatClampNeg t.1) q'.1 := ⟨_, rfl⟩
    rw [← ε4]
    have f4 := wt_fr_sa ε4
    have r0 : ∀ j, j < 2 + 2 * Int32.toNatClampNeg t.1 → wt_ga s4 a1 j = wt_ga t.2 a1 j := fun j hj => by
      rw [f4.2 a1 (by (try dsimp only); omega), q3' j (by omega), f3.2 a1 (by (try dsimp only); omega)]
      exact q3 j (by omega)
    have en : Int32.toNatClampNeg (t.1 + (1 : Int32)) = Int32.toNatClampNeg t.1 + 1 := by have := wt_tnI (x := t.1 + (1 : Int32)) (by omega); omega
    refine hK _ ⟨by show 0 ≤ (t.1 + (1 : Int32)).toInt; omega, by show (t.1 + (1 : Int32)).toInt ≤ 338; omega, ?_, ?_⟩
    · show (wt_gf s4 108 42).toInt = 2 + 2 * (t.1 + (1 : Int32)).toInt
      rw [f4.1 108 42 (fun h => h)]; omega
    · show wu_E1 a1 (Int32.toNatClampNeg (t.1 + (1 : Int32))) s4
      rw [en]
      refine ⟨?_, ?_, fun k hk => ?_⟩
      · rw [f4.1 108 26 (fun h => h), fq'.1 108 26 (by decide), f3.1 108 26 (fun h => h), fq.1 108 26 (by decide), r0 0 (by omega)]; exact i3.1
      · rw [f4.1 108 40 (fun h => h), fq'.1 108 40 (by decide), f3.1 108 40 (fun h => h), fq.1 108 40 (by decide), r0 1 (by omega)]; exact i3.2.1
      · by_cases hc : k = Int32.toNatClampNeg t.1
        · rw [hc]
          refine ⟨?_, ?_⟩
          · rw [f4.2 121 (by decide), fq'.2 121 (by (try dsimp only); omega), wt_v_sa ε3, f4.2 a1 (by (try dsimp only); omega), q3' _ (by omega), f3.2 a1 (by (try dsimp only); omega)]
            exact q2
          · rw [wt_v_sa ε4, f4.2 a1 (by (try dsimp only); omega)]
            exact q2'
        · rw [f4.2 121 (by decide), fq'.2 121 (by (try dsimp only); omega), wt_w_sa ε3 k hc, fq.2 121 (by (try dsimp only); omega), wt_w_sa ε4 k hc, fq'.2 124 (by (try dsimp only); omega), f3.2 124 (by decide), fq.2 124 (by (try dsimp only); omega), r0 _ (by omega), r0 _ (by omega)]
          exact i3.2.2 k (by omega)
end WTQ3
-- 94b.image.lean.txt
section WTQ4
theorem wu_SS_cp {s s' : wt_St} {b b' : Nat} {mn : Nat → Int32} {T : Int} {Lf On Pt Pm : Nat → Int32} {Pc Wt : Nat → Nat → Int32} {Wn Hb : Int32} (h : wu_SS s b mn T Lf On Pt Pm Pc Wt Wn Hb) (hm : ∀ l, (mn l).toInt ≤ 12) (e3 : ∀ i, 0 < i → i < 4 → ∀ j, j < 312 → wt_ga s' (b' + i) j = wt_ga s (b + i) j) (e4 : ∀ j, j < 4 → wt_ga s' (b' + 4) j = wt_ga s (b + 4) j) (e8 : ∀ i, 4 < i → i < 9 → ∀ j, j < 10 → wt_ga s' (b' + i) j = wt_ga s (b + i) j) (g8 : wt_gf s' b' 8 = wt_gf s b 8) (g9 : wt_gf s' b' 9 = wt_gf s b 9) : wu_SS s' b' mn T Lf On Pt Pm Pc Wt Wn Hb := by
  obtain ⟨h1, h2, h3, h4⟩ := h
  refine ⟨by rw [g9]; exact h1, ?_, fun l hl => ?_, fun g hg => ?_⟩
  · rw [g8]
    refine ⟨h2.1, h2.2.1, fun k hk => ?_⟩
    have hb := h2.2.1
    rw [e8 5 (by omega) (by omega) k (by omega), e8 6 (by omega) (by omega) k (by omega), e8 7 (by omega) (by omega) k (by omega), e8 8 (by omega) (by omega) k (by omega)]
    exact h2.2.2 k hk
  · have m12 := hm l
    refine ⟨fun i hi => ?_, fun i hi hj => ?_⟩
    · rw [e3 1 (by omega) (by omega) (12 * l + i) (by omega), e3 2 (by omega) (by omega) (12 * l + i) (by omega)]
      exact (h3 l hl).1 i hi
    · rw [e3 2 (by omega) (by omega) (12 * l + i) (by omega)]
      exact (h3 l hl).2 i hi hj
  · rw [e4 g hg]
    obtain ⟨p1, p2⟩ := h4 g hg
    refine ⟨p1, fun hne => ⟨fun k hk => ?_, (p2 hne).2⟩⟩
    obtain ⟨l, i, l1, l2, l3, l4, l5⟩ := (p2 hne).1 k hk
    have m12 := hm l
    exact ⟨l, i, l1, l2, l3, l4, by rw [e3 3 (by omega) (by omega) (12 * l + i) (by omega)]; exact l5⟩
theorem wu_SS_rf {s : wt_St} {b : Nat} {mn mn' : Nat → Int32} {T T' : Int} {Lf On Pt Pm Lf' On' Pt' Pm' : Nat → Int32} {Pc Wt Pc' Wt' : Nat → Nat → Int32} {Wn Hb Wn' Hb' : Int32} (h : wu_SS s b mn T Lf On Pt Pm Pc Wt Wn Hb) (hm : ∀ l, (mn l).toInt ≤ 12) (hp : ∀ g, g < 4 → (Pm g).toInt ≤ 108) (em : ∀ l, mn' l = mn l) (eT : T ≤ T') (eL : ∀ c, c < 338 → Lf' c = Lf c) (eO : ∀ c, c < 338 → On' c = On c) (eP : ∀ g, g < 4 → Pt' g = Pt g) (eM : ∀ g, g < 4 → Pm' g = Pm g) (eC : ∀ g, g < 4 → ∀ k, k < 108 → Pc' g k = Pc g k) (eW : ∀ w, w < 10 → ∀ j, j < 4 → Wt' w j = Wt w j) (en : Wn' = Wn) (eh : Hb' = Hb) : wu_SS s b mn' T' Lf' On' Pt' Pm' Pc' Wt' Wn' Hb' := by
  have em' : mn' = mn := funext em
  subst em'
  subst en
  subst eh
  obtain ⟨h1, h2, h3, h4⟩ := h
  refine ⟨h1, wu_SW_le (T := T) ⟨h2.1, h2.2.1, fun k hk => ?_⟩ eT, fun l hl => ⟨fun i hi => ?_, (h3 l hl).2⟩, fun g hg => ?_⟩
  · have hb := h2.2.1
    rw [eW k (by omega) 0 (by omega), eW k (by omega) 1 (by omega), eW k (by omega) 2 (by omega), eW k (by omega) 3 (by omega)]
    exact h2.2.2 k hk
  · have m12 := hm l
    obtain ⟨a, b, c⟩ := (h3 l hl).1 i hi
    rw [eL _ (by omega), eO _ (by omega)]
    refine ⟨a, b, c.imp (fun h => h) (fun h => ?_)⟩
    obtain ⟨g, g1, g2, g3⟩ := h
    exact ⟨g, g1, g2, by rw [eP g g1]; exact g3⟩
  · rw [eP g hg, eM g hg]
    obtain ⟨p1, p2⟩ := h4 g hg
    have p108 := hp g hg
    refine ⟨p1, fun hne => ⟨fun k hk => ?_, fun l i hl hi ho => ?_⟩⟩
    · obtain ⟨l, i, l1, l2, l3, l4, l5⟩ := (p2 hne).1 k hk
      have m12 := hm l
      refine ⟨l, i, l1, l2, by rw [eC g hg k (by omega)]; exact l3, by rw [eO _ (by omega)]; exact l4, ?_⟩
      rw [l5]
      exact (wt_ct_congr k (fun k' hk' => by show (Pc g k').toInt / 13 = (Pc' g k').toInt / 13; rw [eC g hg k' (by omega)]))
    · have m12 := hm l
      rw [eO _ (by omega)] at ho
      obtain ⟨k, k1, k2⟩ := (p2 hne).2 l i hl hi ho
      exact ⟨k, k1, by rw [eC g hg k (by omega)]; exact k2⟩
set_option maxHeartbeats 4000000 in
theorem wh_stbecome (n : Nat) {t0 t1 : Nat} {σ : wt_St} (hd : t0 + 8 < t1 ∨ t1 + 8 < t0) (hl : ∀ i, 0 < i → i < 9 → wt_ln (t0 + i) = wt_ln (t1 + i)) (l3 : ∀ i, 0 < i → i < 4 → wt_ln (t1 + i) = 312) (l4 : wt_ln (t1 + 4) = 4) (l8 : ∀ i, 4 < i → i < 9 → wt_ln (t1 + i) = 10) : wt_H (wp_st_become n t0 t1 σ) (fun q => wt_fr (fun i k => i = t0 ∧ (k = 8 ∨ k = 9)) (fun i => t0 < i ∧ i < t0 + 9) σ q ∧ (∀ i, 0 < i → i < 4 → ∀ j, j < 312 → wt_ga q (t0 + i) j = wt_ga σ (t1 + i) j) ∧ (∀ j, j < 4 → wt_ga q (t0 + 4) j = wt_ga σ (t1 + 4) j) ∧ (∀ i, 4 < i → i < 9 → ∀ j, j < 10 → wt_ga q (t0 + i) j = wt_ga σ (t1 + i) j) ∧ wt_gf q t0 8 = wt_gf σ t1 8 ∧ wt_gf q t0 9 = wt_gf σ t1 9) := by
  unfold wp_st_become
  refine wt_H_bh (wh_copyRow n (a := t1 + 1) (b := t0 + 1) (by omega) (hl 1 (by omega) (by omega))) (fun q1 h1 => ?_)
  refine wt_H_bh (wh_copyRow n (a := t1 + 2) (b := t0 + 2) (by omega) (hl 2 (by omega) (by omega))) (fun q2 h2 => ?_)
  refine wt_H_bh (wh_copyRow n (a := t1 + 3) (b := t0 + 3) (by omega) (hl 3 (by omega) (by omega))) (fun q3 h3 => ?_)
  refine wt_H_bh (wh_copyRow n (a := t1 + 4) (b := t0 + 4) (by omega) (hl 4 (by omega) (by omega))) (fun q4 h4 => ?_)
  refine wt_H_bh (wh_copyRow n (a := t1 + 5) (b := t0 + 5) (by omega) (hl 5 (by omega) (by omega))) (fun q5 h5 => ?_)
  refine wt_H_bh (wh_copyRow n (a := t1 + 6) (b := t0 + 6) (by omega) (hl 6 (by omega) (by omega))) (fun q6 h6 => ?_)
  refine wt_H_bh (wh_copyRow n (a := t1 + 7) (b := t0 + 7) (by omega) (hl 7 (by omega) (by omega))) (fun q7 h7 => ?_)
  refine wt_H_bh (wh_copyRow n (a := t1 + 8) (b := t0 + 8) (by omega) (hl 8 (by omega) (by omega))) (fun q8 h8 => ?_)
  obtain ⟨f1, c1⟩ := h1
  obtain ⟨f2, c2⟩ := h2
  obtain ⟨f3, c3⟩ := h3
  obtain ⟨f4, c4⟩ := h4
  obtain ⟨f5, c5⟩ := h5
  obtain ⟨f6, c6⟩ := h6
  obtain ⟨f7, c7⟩ := h7
  obtain ⟨f8, c8⟩ := h8
  rw [l3 1 (by omega) (by omega)] at c1
  rw [l3 2 (by omega) (by omega)] at c2
  rw [l3 3 (by omega) (by omega)] at c3
  rw [l4] at c4
  rw [l8 5 (by omega) (by omega)] at c5
  rw [l8 6 (by omega) (by omega)] at c6
  rw [l8 7 (by omega) (by omega)] at c7
  rw [l8 8 (by omega) (by omega)] at c8
  obtain ⟨q9, ε9⟩ : ∃ o : wt_St, o = wt_sf q8 t0 8 (wt_gf q8 t1 8) := ⟨_, rfl⟩
  rw [← ε9]
  obtain ⟨q10, ε10⟩ : ∃ o : wt_St, o = wt_sf q9 t0 9 (wt_gf q9 t1 9) := ⟨_, rfl⟩
  rw [← ε10]
  have f9 := wt_fr_sf ε9
  have f10 := wt_fr_sf ε10
  have W : ∀ {b : Nat} {s s' : wt_St}, wt_fr (fun _ _ => False) (fun i => i = b) s s' → t0 < b → b < t0 + 9 → wt_fr (fun i k => i = t0 ∧ (k = 8 ∨ k = 9)) (fun i => t0 < i ∧ i < t0 + 9) s s' := fun f h1 h2 => wt_frw f (fun i k h => h.elim) (fun i h => by (try dsimp only at h); omega)
  have T : ∀ {s s' s'' : wt_St}, wt_fr (fun i k => i = t0 ∧ (k = 8 ∨ k = 9)) (fun i => t0 < i ∧ i < t0 + 9) s s' → wt_fr (fun i k => i = t0 ∧ (k = 8 ∨ k = 9)) (fun i => t0 < i ∧ i < t0 + 9) s' s'' → wt_fr (fun i k => i = t0 ∧ (k = 8 ∨ k = 9)) (fun i => t0 < i ∧ i < t0 + 9) s s'' := fun f g => wt_fr.tr f g (fun i k h => h) (fun i h => h)
  have w1 := W f1 (by omega) (by omega)
  have w2 := T w1 (W f2 (by omega) (by omega))
  have w3 := T w2 (W f3 (by omega) (by omega))
  have w4 := T w3 (W f4 (by omega) (by omega))
  have w5 := T w4 (W f5 (by omega) (by omega))
  have w6 := T w5 (W f6 (by omega) (by omega))
  have w7 := T w6 (W f7 (by omega) (by omega))
  have w8 := T w7 (W f8 (by omega) (by omega))
  have w10 := (w8.sf ε9 ⟨rfl, Or.inl rfl⟩).sf ε10 ⟨rfl, Or.inr rfl⟩
  have tail : ∀ i j, wt_ga q10 i j = wt_ga q8 i j := fun i j => by rw [f10.2 i (fun h => h), f9.2 i (fun h => h)]
  have keep : ∀ {s s' : wt_St} {b : Nat}, wt_fr (fun _ _ => False) (fun i => i = b) s s' → ∀ i, i ≠ b → ∀ j, wt_ga s' i j = wt_ga s i j := fun f i hi j => f.2 i hi j
  refine wt_H_some ⟨w10, fun i a b j hj => ?_, fun j hj => ?_, fun i a b j hj => ?_, ?_, ?_⟩
  · rw [tail]
    rcases (show i = 1 ∨ i = 2 ∨ i = 3 by omega) with h | h | h <;> subst h
    · rw [keep f8 _ (by omega), keep f7 _ (by omega), keep f6 _ (by omega), keep f5 _ (by omega), keep f4 _ (by omega), keep f3 _ (by omega), keep f2 _ (by omega), c1 j hj]
    · rw [keep f8 _ (by omega), keep f7 _ (by omega), keep f6 _ (by omega), keep f5 _ (by omega), keep f4 _ (by omega), keep f3 _ (by omega), c2 j hj]
      exact w1.2 _ (by (try dsimp only); omega) j
    · rw [keep f8 _ (by omega), keep f7 _ (by omega), keep f6 _ (by omega), keep f5 _ (by omega), keep f4 _ (by omega), c3 j hj]
      exact w2.2 _ (by (try dsimp only); omega) j
  · rw [tail, keep f8 _ (by omega), keep f7 _ (by omega), keep f6 _ (by omega), keep f5 _ (by omega), c4 j hj]
    exact w3.2 _ (by (try dsimp only); omega) j
  · rw [tail]
    rcases (show i = 5 ∨ i = 6 ∨ i = 7 ∨ i = 8 by omega) with h | h | h | h <;> subst h
    · rw [keep f8 _ (by omega), keep f7 _ (by omega), keep f6 _ (by omega), c5 j hj]
      exact w4.2 _ (by (try dsimp only); omega) j
    · rw [keep f8 _ (by omega), keep f7 _ (by omega), c6 j hj]
      exact w5.2 _ (by (try dsimp only); omega) j
    · rw [keep f8 _ (by omega), c7 j hj]
      exact w6.2 _ (by (try dsimp only); omega) j
    · rw [c8 j hj]
      exact w7.2 _ (by (try dsimp only); omega) j
  · rw [f10.1 t0 8 (by (try dsimp only); omega), wt_v_sf ε9]
    exact w8.1 t1 8 (by (try dsimp only); omega)
  · rw [wt_v_sf ε10, f9.1 t1 9 (by (try dsimp only); omega)]
    exact w8.1 t1 9 (by (try dsimp only); omega)
theorem wt_lnS (b : Nat) (hb : b = 39 ∨ b = 49 ∨ b = 58 ∨ b = 67) : (∀ i, 0 < i → i < 4 → wt_ln (b + i) = 312) ∧ wt_ln (b + 4) = 4 ∧ ∀ i, 4 < i → i < 9 → wt_ln (b + i) = 10 := by
  rcases hb with h | h | h | h <;> subst h <;> refine ⟨fun i a b => ?_, by decide, fun i a b => ?_⟩
  all_goals first
    | (rcases (show i = 1 ∨ i = 2 ∨ i = 3 by omega) with h | h | h <;> subst h <;> decide)
    | (rcases (show i = 5 ∨ i = 6 ∨ i = 7 ∨ i = 8 by omega) with h | h | h | h <;> subst h <;> decide)
theorem wh_stbecome2 (n : Nat) {t0 t1 : Nat} {σ : wt_St} (h0 : t0 = 39 ∨ t0 = 49 ∨ t0 = 58 ∨ t0 = 67) (h1 : t1 = 39 ∨ t1 = 49 ∨ t1 = 58 ∨ t1 = 67) (hne : t0 ≠ t1) : wt_H (wp_st_become n t0 t1 σ) (fun q => wt_fr (fun i k => i = t0 ∧ (k = 8 ∨ k = 9)) (fun i => t0 < i ∧ i < t0 + 9) σ q ∧ (∀ i, 0 < i → i < 4 → ∀ j, j < 312 → wt_ga q (t0 + i) j = wt_ga σ (t1 + i) j) ∧ (∀ j, j < 4 → wt_ga q (t0 + 4) j = wt_ga σ (t1 + 4) j) ∧ (∀ i, 4 < i → i < 9 → ∀ j, j < 10 → wt_ga q (t0 + i) j = wt_ga σ (t1 + i) j) ∧ wt_gf q t0 8 = wt_gf σ t1 8 ∧ wt_gf q t0 9 = wt_gf σ t1 9) := by
  obtain ⟨a1, a2, a3⟩ := wt_lnS t0 h0
  obtain ⟨b1, b2, b3⟩ := wt_lnS t1 h1
  refine wh_stbecome n (by omega) (fun i p q => ?_) b1 b2 b3
  by_cases h : i < 4
  · rw [a1 i p h, b1 i p h]
  · by_cases h4 : i = 4
    · rw [h4, a2, b2]
    · rw [a3 i (by omega) q, b3 i (by omega) q]
end WTQ4
-- 94c.image2.lean.txt
section WTQ5
theorem wt_IV_m12 {z : wt_St} (v : wt_IV z) (l : Nat) : (wt_ga z 111 l).toInt ≤ 12 := v.2.1 l
theorem wt_IV_108 {z : wt_St} (v : wt_IV z) (g : Nat) : (wt_ga z 276 g).toInt ≤ 108 := (show 0 ≤ (wt_ga z 276 g).toInt ∧ (wt_ga z 276 g).toInt ≤ 108 from wt_Ra13 v.1 276 (by decide) (by decide) g).2
set_option maxRecDepth 100000 in
set_option maxHeartbeats 8000000 in
theorem wr_image (n : Nat) (hn : 4294967297 < n) {s z : wt_St} (v : wt_IV z) (sc : wu_SC s z) (si : wu_SI s z) : wt_HH (wp_ap_image n s) (wp_md_image n z) (fun q y => q.1 = y.1 ∧ wu_SC q.2 y.2 ∧ wu_SI q.2 y.2) := by
  have k0 : (0 : Int32).toInt = 0 := by decide
  have k3 : (3 : Int32).toInt = 3 := by decide
  have g41 : 0 ≤ (wt_gf z 108 41).toInt ∧ (wt_gf z 108 41).toInt ≤ 3 := wt_Rf9 v.1
  have d := si.1
  have d' := wt_ceq d
  have C : wt_H (wp_ap_image n s) (fun q => ((wt_gf z 108 41).toInt = 3 ∧ q = ((-1 : Int32), s)) ∨ ((wt_gf z 108 41).toInt < 3 ∧ q.1 = (wt_gf z 108 41) + (1 : Int32) ∧ wt_gf q.2 0 14 = (wt_gf z 108 41) + (1 : Int32) ∧ ∃ b : Nat, b = 49 + 9 * Int32.toNatClampNeg (wt_gf z 108 41) ∧ wt_fr (fun i k => (i = b ∧ (k = 8 ∨ k = 9)) ∨ (i = 0 ∧ k = 14)) (fun i => b < i ∧ i < b + 9) s q.2 ∧ (∀ i, 0 < i → i < 4 → ∀ j, j < 312 → wt_ga q.2 (b + i) j = wt_ga s (39 + i) j) ∧ (∀ j, j < 4 → wt_ga q.2 (b + 4) j = wt_ga s (39 + 4) j) ∧ (∀ i, 4 < i → i < 9 → ∀ j, j < 10 → wt_ga q.2 (b + i) j = wt_ga s (39 + i) j) ∧ wt_gf q.2 b 8 = wt_gf s 39 8 ∧ wt_gf q.2 b 9 = wt_gf s 39 9)) := by
    unfold wp_ap_image
    rw [d]
    refine wt_H_if (fun h => ?_) (fun h => wt_H_if (fun h2 => ?_) (fun h2 => ?_))
    · have h' := wt_clt h
      omega
    · have h2' := wt_clt h2
      refine wt_H_gd (fun g => ?_)
      have en := wt_tnI g41.1
      refine wt_H_bh (wh_stbecome2 n (t0 := 49 + 9 * Int32.toNatClampNeg (wt_gf z 108 41)) (t1 := 39) (by omega) (by omega) (by omega)) (fun q4 h4 => ?_)
      obtain ⟨f4, b1, b2, b3, b4, b5⟩ := h4
      have e14 : wt_gf q4 0 14 = wt_gf z 108 41 := (f4.1 0 14 (by (try dsimp only); omega)).trans d
      rw [e14]
      obtain ⟨q5, ε5⟩ : ∃ o : wt_St, o = wt_sf q4 0 14 ((wt_gf z 108 41) + (1 : Int32)) := ⟨_, rfl⟩
      rw [← ε5]
      have f5 := wt_fr_sf ε5
      refine wt_H_some (Or.inr ⟨by omega, wt_v_sf ε5, wt_v_sf ε5, _, rfl, wt_fr.sf (wt_frw f4 (fun i k h => Or.inl h) (fun i h => h)) ε5 (Or.inr ⟨rfl, rfl⟩), fun i p q j hj => ?_, fun j hj => ?_, fun i p q j hj => ?_, ?_, ?_⟩)
      · rw [f5.2 _ (fun h => h)]; exact b1 i p q j hj
      · rw [f5.2 _ (fun h => h)]; exact b2 j hj
      · rw [f5.2 _ (fun h => h)]; exact b3 i p q j hj
      · rw [f5.1 _ 8 (by (try dsimp only); omega)]; exact b4
      · rw [f5.1 _ 9 (by (try dsimp only); omega)]; exact b5
    · have h2' := wt_ncl h2
      exact wt_H_some (Or.inl ⟨by omega, rfl⟩)
  have M : wt_H (wp_md_image n z) (fun r => ((wt_gf z 108 41).toInt = 3 ∧ r.1 = -1 ∧ wt_fr (fun i k => i = 108 ∧ k = 0) (fun _ => False) z r.2) ∨ ((wt_gf z 108 41).toInt < 3 ∧ r.1 = (wt_gf z 108 41) + (1 : Int32) ∧ wt_gf r.2 108 41 = (wt_gf z 108 41) + (1 : Int32) ∧ ∃ a : Nat, a = 283 + Int32.toNatClampNeg (wt_gf z 108 41) ∧ wt_fr (fun i k => i = 108 ∧ (k = 0 ∨ k = 42 ∨ k = 41)) (fun i => i = a) z r.2 ∧ wu_E1 a 338 r.2 ∧ wu_E4 a 40 r.2 ∧ ∀ g, g < 4 → wt_EQ a r.2 g)) := by
    unfold wp_md_image
    obtain ⟨s0, ε0⟩ : ∃ o : wt_St, o = wt_sf z 108 0 (0 : Int32) := ⟨_, rfl⟩
    rw [← ε0]
    have f0 := wt_fr_sf ε0
    have e41 : wt_gf s0 108 41 = wt_gf z 108 41 := f0.1 108 41 (by (try dsimp only); omega)
    rw [e41]
    refine wt_H_if (fun h => ?_) (fun h => ?_)
    · have h' := wt_ceq h
      exact wt_H_some (Or.inl ⟨by omega, rfl, f0⟩)
    · have h' := wt_nceq h
      refine wt_H_gd (fun g => ?_)
      have en := wt_tnI g41.1
      refine wt_H_bh (((wq_md_movesAll n hn (283 + Int32.toNatClampNeg (wt_gf z 108 41)) (0 : Int32) s0 (wt_RI_fno v.1 ε0 (Or.inr (by decide +kernel))) (by omega) (by omega) (fun h => absurd k0 h)).h).and (wh_movesAll n (by omega) (by omega))) (fun q3 h3 => ?_)
      obtain ⟨⟨km, -, eq⟩, e1, e4⟩ := h3
      obtain ⟨-, -, -, -, ks⟩ := km
      obtain ⟨ka, kf⟩ := ks k0
      have e3 : wt_gf q3 108 41 = wt_gf z 108 41 := (kf 108 41 (by omega)).trans e41
      rw [e3]
      obtain ⟨q4, ε4⟩ : ∃ o : wt_St, o = wt_sf q3 108 41 ((wt_gf z 108 41) + (1 : Int32)) := ⟨_, rfl⟩
      rw [← ε4]
      have f4 := wt_fr_sf ε4
      refine wt_H_some (Or.inr ⟨by omega, wt_v_sf ε4, wt_v_sf ε4, _, rfl, ⟨fun i k h => ?_, fun i h j => ?_⟩, ?_, fun w j hj hw => ?_, fun g hg => ?_⟩)
      · rw [f4.1 i k (by (try dsimp only at h ⊢); omega), kf i k (by (try dsimp only at h); omega), f0.1 i k (by (try dsimp only at h ⊢); omega)]
      · rw [f4.2 i (fun h => h), ka i h, f0.2 i (fun h => h)]
      · obtain ⟨p1, p2, p3⟩ := e1
        refine ⟨?_, ?_, fun k hk => ?_⟩
        · rw [f4.1 108 26 (by decide), f4.2 _ (fun h => h)]; exact p1
        · rw [f4.1 108 40 (by decide), f4.2 _ (fun h => h)]; exact p2
        · rw [f4.2 121 (fun h => h), f4.2 124 (fun h => h), f4.2 _ (fun h => h), f4.2 _ (fun h => h)]; exact p3 k hk
      · rw [f4.2 _ (fun h => h), f4.2 _ (fun h => h)]; exact e4 w j hj hw
      · obtain ⟨p1, p2, p3⟩ := eq g hg
        refine ⟨?_, ?_, fun k hk => ?_⟩
        · rw [f4.2 275 (fun h => h), f4.2 _ (fun h => h)]; exact p1
        · rw [f4.2 276 (fun h => h), f4.2 _ (fun h => h)]; exact p2
        · rw [f4.2 _ (fun h => h), f4.2 _ (fun h => h)]; exact p3 k hk
  refine wt_HH_of C M (fun q y hq hy => ?_)
  rcases hq with ⟨c1, c2⟩ | ⟨c1, c2, c3, b, eb, fb, b1, b2, b3, b4, b5⟩
  · rcases hy with ⟨m1, m2, m3⟩ | ⟨m1, -⟩
    · subst c2
      exact ⟨m2.symm, wu_SC_fr sc (wt_fr.rf (F := fun _ _ => False) (A := fun _ => False)) m3 (fun _ _ h => h) (fun k hk => by (try dsimp only); omega) (fun _ _ _ h => h) (fun _ _ h => h), wu_SI_fr si (wt_fr.rf (F := fun _ _ => False) (A := fun _ => False)) m3 g41.2 (fun _ _ _ h => h) (fun k hk => by (try dsimp only); omega) (fun _ _ _ h => h) (fun _ _ h => h)⟩
    · omega
  · rcases hy with ⟨m1, -⟩ | ⟨m1, m2, m3, a, ea, fa, e1, e4, eq⟩
    · omega
    · have en := wt_tnI g41.1
      have ei := wt_i1 (c := wt_gf z 108 41) (by omega)
      refine ⟨c2.trans m2.symm, wu_SC_fr sc fb fa (fun k hk => by (try dsimp only); omega) (fun k hk => by (try dsimp only); omega) (fun i p q => by (try dsimp only); omega) (fun i hi => by (try dsimp only); omega), c3.trans m3.symm, fun i hi => ?_⟩
      rw [m3, ei] at hi
      have em : ∀ j, wt_ga y.2 111 j = wt_ga z 111 j := fa.2 111 (by (try dsimp only); omega)
      have eT : wt_gf y.2 108 39 = wt_gf z 108 39 := fa.1 108 39 (by (try dsimp only); omega)
      by_cases hc : i = Int32.toNatClampNeg (wt_gf z 108 41)
      · subst hc
        have h1 := wu_SS_cp (s' := q.2) (b' := b) sc (wt_IV_m12 v) b1 b2 b3 b4 b5
        unfold wu_S1
        rw [← eb, ← ea]
        obtain ⟨p1, p2, p3⟩ := e1
        refine wu_SS_rf h1 (wt_IV_m12 v) (fun g _ => wt_IV_108 v g) em (by rw [eT]; exact Int.le_refl _) (fun c hc => ?_) (fun c hc => ?_) (fun g hg => ?_) (fun g hg => ?_) (fun g hg k hk => ?_) (fun w hw j hj => ?_) ?_ ?_
        · show wt_ga y.2 a (2 + 2 * c) = wt_ga z 121 c
          rw [← (p3 c hc).1]; exact fa.2 121 (by (try dsimp only); omega) c
        · show wt_ga y.2 a (3 + 2 * c) = wt_ga z 124 c
          rw [← (p3 c hc).2]; exact fa.2 124 (by (try dsimp only); omega) c
        · show wt_ga y.2 a (678 + 110 * g) = wt_ga z 275 g
          rw [← (eq g hg).1]; exact fa.2 275 (by (try dsimp only); omega) g
        · show wt_ga y.2 a (679 + 110 * g) = wt_ga z 276 g
          rw [← (eq g hg).2.1]; exact fa.2 276 (by (try dsimp only); omega) g
        · show wt_ga y.2 a (680 + 110 * g + k) = wt_ga z (278 + g) k
          rw [← (eq g hg).2.2 k hk]; exact fa.2 (278 + g) (by (try dsimp only); omega) k
        · show wt_ga y.2 a (1118 + 4 * w + j) = wt_ga z (264 + w) j
          rw [← e4 w j hj (by omega)]; exact fa.2 (264 + w) (by (try dsimp only); omega) j
        · rw [← p2]; exact fa.1 108 40 (by (try dsimp only); omega)
        · rw [← p1]; exact fa.1 108 26 (by (try dsimp only); omega)
      · have h1 := si.2 i (by omega)
        have ek : wt_ga y.2 (283 + i) = wt_ga z (283 + i) := funext (fa.2 _ (by (try dsimp only); omega))
        have em' : wt_ga y.2 111 = wt_ga z 111 := funext em
        unfold wu_S1
        rw [ek, em', eT]
        exact wu_SS_eq h1 (fun j p q' => fb.2 j (by (try dsimp only); omega)) (fb.1 _ 8 (by (try dsimp only); omega)) (fb.1 _ 9 (by (try dsimp only); omega)) (Int.le_refl _)
set_option maxRecDepth 100000 in
set_option maxHeartbeats 8000000 in
theorem wr_restore (n : Nat) (hn : 4294967297 < n) {s z : wt_St} (v : wt_IV z) (sc : wu_SC s z) (si : wu_SI s z) : wt_HH (wp_ap_restore n s) (wp_md_restore n z) (fun q y => q.1 = y.1 ∧ wu_SC q.2 y.2 ∧ wu_SI q.2 y.2) := by
  have k0 : (0 : Int32).toInt = 0 := by decide
  have k1 : (1 : Int32).toInt = 1 := by decide
  have k3 : (3 : Int32).toInt = 3 := by decide
  have g41 : 0 ≤ (wt_gf z 108 41).toInt ∧ (wt_gf z 108 41).toInt ≤ 3 := wt_Rf9 v.1
  have d := si.1
  have es := wt_subE (x := wt_gf z 108 41) (y := (1 : Int32)) (by omega) (by omega)
  have C : wt_H (wp_ap_restore n s) (fun q => ((wt_gf z 108 41).toInt = 0 ∧ q = ((-1 : Int32), s)) ∨ (0 < (wt_gf z 108 41).toInt ∧ q.1 = (wt_gf z 108 41) - (1 : Int32) ∧ wt_gf q.2 0 14 = (wt_gf z 108 41) - (1 : Int32) ∧ ∃ b : Nat, b = 49 + 9 * Int32.toNatClampNeg ((wt_gf z 108 41) - (1 : Int32)) ∧ wt_fr (fun i k => (i = 39 ∧ (k = 8 ∨ k = 9)) ∨ (i = 0 ∧ k = 14)) (fun i => 39 < i ∧ i < 48) s q.2 ∧ (∀ i, 0 < i → i < 4 → ∀ j, j < 312 → wt_ga q.2 (39 + i) j = wt_ga s (b + i) j) ∧ (∀ j, j < 4 → wt_ga q.2 (39 + 4) j = wt_ga s (b + 4) j) ∧ (∀ i, 4 < i → i < 9 → ∀ j, j < 10 → wt_ga q.2 (39 + i) j = wt_ga s (b + i) j) ∧ wt_gf q.2 39 8 = wt_gf s b 8 ∧ wt_gf q.2 39 9 = wt_gf s b 9)) := by
    unfold wp_ap_restore
    rw [d]
    refine wt_H_if (fun h => ?_) (fun h => wt_H_if (fun h2 => ?_) (fun h2 => ?_))
    · have h' := wt_clt h
      exact wt_H_some (Or.inl ⟨by omega, rfl⟩)
    · have h' := wt_ncl h
      refine wt_H_gd (fun g => ?_)
      have en := wt_tnI (x := (wt_gf z 108 41) - (1 : Int32)) (by omega)
      refine wt_H_bh (wh_stbecome2 n (t0 := 39) (t1 := 49 + 9 * Int32.toNatClampNeg ((wt_gf z 108 41) - (1 : Int32))) (by omega) (by omega) (by omega)) (fun q4 h4 => ?_)
      obtain ⟨f4, b1, b2, b3, b4, b5⟩ := h4
      obtain ⟨q5, ε5⟩ : ∃ o : wt_St, o = wt_sf q4 0 14 ((wt_gf z 108 41) - (1 : Int32)) := ⟨_, rfl⟩
      rw [← ε5]
      have f5 := wt_fr_sf ε5
      refine wt_H_some (Or.inr ⟨by omega, wt_v_sf ε5, wt_v_sf ε5, _, rfl, wt_fr.sf (wt_frw f4 (fun i k h => Or.inl h) (fun i h => by (try dsimp only at h ⊢); omega)) ε5 (Or.inr ⟨rfl, rfl⟩), fun i p q j hj => ?_, fun j hj => ?_, fun i p q j hj => ?_, ?_, ?_⟩)
      · rw [f5.2 _ (fun h => h)]; exact b1 i p q j hj
      · rw [f5.2 _ (fun h => h)]; exact b2 j hj
      · rw [f5.2 _ (fun h => h)]; exact b3 i p q j hj
      · rw [f5.1 _ 8 (by (try dsimp only); omega)]; exact b4
      · rw [f5.1 _ 9 (by (try dsimp only); omega)]; exact b5
    · have h' := wt_ncl h
      have h2' := wt_ncl h2
      omega
  have M : wt_H (wp_md_restore n z) (fun r => ((wt_gf z 108 41).toInt = 0 ∧ r.1 = -1 ∧ wt_fr (fun i k => i = 108 ∧ k = 0) (fun _ => False) z r.2) ∨ (0 < (wt_gf z 108 41).toInt ∧ r.1 = (wt_gf z 108 41) - (1 : Int32) ∧ wt_gf r.2 108 41 = (wt_gf z 108 41) - (1 : Int32) ∧ ∃ a : Nat, a = 283 + Int32.toNatClampNeg ((wt_gf z 108 41) - (1 : Int32)) ∧ wt_fr (fun i k => i = 108 ∧ (k = 0 ∨ k = 41 ∨ k = 42 ∨ k = 26 ∨ k = 40)) (fun i => i = 121 ∨ i = 124 ∨ i = 275 ∨ i = 276 ∨ (278 ≤ i ∧ i < 282) ∨ (264 ≤ i ∧ i < 274)) z r.2 ∧ wu_E1 a 338 r.2 ∧ wu_E4 a 40 r.2 ∧ ∀ g, g < 4 → wt_EQ a r.2 g)) := by
    unfold wp_md_restore
    obtain ⟨s0, ε0⟩ : ∃ o : wt_St, o = wt_sf z 108 0 (0 : Int32) := ⟨_, rfl⟩
    rw [← ε0]
    have f0 := wt_fr_sf ε0
    have e41 : wt_gf s0 108 41 = wt_gf z 108 41 := f0.1 108 41 (by (try dsimp only); omega)
    rw [e41]
    refine wt_H_if (fun h => ?_) (fun h => ?_)
    · have h' := wt_ceq h
      exact wt_H_some (Or.inl ⟨by omega, rfl, f0⟩)
    · have h' := wt_nceq h
      obtain ⟨s1, ε1⟩ : ∃ o : wt_St, o = wt_sf s0 108 41 ((wt_gf z 108 41) - (1 : Int32)) := ⟨_, rfl⟩
      rw [← ε1]
      have v41 := wt_v_sf ε1
      rw [v41]
      have f1 := wt_fr_sf ε1
      refine wt_H_gd (fun g => ?_)
      have en := wt_tnI (x := (wt_gf z 108 41) - (1 : Int32)) (by omega)
      have kk := (v.2.2.2.2 (Int32.toNatClampNeg ((wt_gf z 108 41) - (1 : Int32))) (by omega)).1
      refine wt_H_bh (((wq_md_movesAll n hn (283 + Int32.toNatClampNeg ((wt_gf z 108 41) - (1 : Int32))) (1 : Int32) s1 (wt_RI_fin (wt_RI_fno v.1 ε0 (Or.inr (by decide +kernel))) ε1 9 rfl rfl (show 0 ≤ ((wt_gf z 108 41) - (1 : Int32)).toInt by omega) (show ((wt_gf z 108 41) - (1 : Int32)).toInt ≤ 3 by omega)) (by omega) (by omega) (fun _ j hj => ?_)).h).and (wh_movesAll n (by omega) (by omega))) (fun q3 h3 => ?_)
      · rw [f1.2 _ (fun h => h), f0.2 _ (fun h => h)]
        exact kk j hj
      · obtain ⟨⟨km, fr, eq⟩, e1, e4⟩ := h3
        obtain ⟨-, -, -, kr, -⟩ := km
        have kr' := kr (by omega)
        have e3 : wt_gf q3 108 41 = (wt_gf z 108 41) - (1 : Int32) := (fr.1 108 41 (by unfold wt_mF; omega)).trans v41
        refine wt_H_some (Or.inr ⟨by omega, e3, e3, _, rfl, ⟨fun i k h => ?_, fun i h j => ?_⟩, e1, e4, eq⟩)
        · rw [fr.1 i k (by unfold wt_mF; (try dsimp only at h); omega), f1.1 i k (by (try dsimp only at h ⊢); omega), f0.1 i k (by (try dsimp only at h ⊢); omega)]
        · by_cases hc : i = 283 + Int32.toNatClampNeg ((wt_gf z 108 41) - (1 : Int32))
          · rw [hc, kr' j, f1.2 _ (fun h => h), f0.2 _ (fun h => h)]
          · rw [fr.2 i (by unfold wt_mA; (try dsimp only at h); omega), f1.2 i (fun h => h), f0.2 i (fun h => h)]
  refine wt_HH_of C M (fun q y hq hy => ?_)
  rcases hq with ⟨c1, c2⟩ | ⟨c1, c2, c3, b, eb, fb, b1, b2, b3, b4, b5⟩
  · rcases hy with ⟨m1, m2, m3⟩ | ⟨m1, -⟩
    · subst c2
      exact ⟨m2.symm, wu_SC_fr sc (wt_fr.rf (F := fun _ _ => False) (A := fun _ => False)) m3 (fun _ _ h => h) (fun k hk => by (try dsimp only); omega) (fun _ _ _ h => h) (fun _ _ h => h), wu_SI_fr si (wt_fr.rf (F := fun _ _ => False) (A := fun _ => False)) m3 g41.2 (fun _ _ _ h => h) (fun k hk => by (try dsimp only); omega) (fun _ _ _ h => h) (fun _ _ h => h)⟩
    · omega
  · rcases hy with ⟨m1, -⟩ | ⟨m1, m2, m3, a, ea, fa, e1, e4, eq⟩
    · omega
    · have en := wt_tnI (x := (wt_gf z 108 41) - (1 : Int32)) (by omega)
      have em : ∀ j, wt_ga y.2 111 j = wt_ga z 111 j := fa.2 111 (by (try dsimp only); omega)
      have eT : wt_gf y.2 108 39 = wt_gf z 108 39 := fa.1 108 39 (by (try dsimp only); omega)
      have hL : ((Int32.toNatClampNeg ((wt_gf z 108 41) - (1 : Int32)) : Nat) : Int) < (wt_gf z 108 41).toInt := by omega
      have S1 := si.2 _ hL
      have KK := (v.2.2.2.2 _ hL).1
      unfold wu_S1 at S1
      rw [← eb, ← ea] at S1
      rw [← ea] at KK
      have ey : ∀ j, wt_ga y.2 a j = wt_ga z a j := fa.2 a (by (try dsimp only); omega)
      refine ⟨c2.trans m2.symm, ?_, c3.trans m3.symm, fun i hi => ?_⟩
      · have h1 := wu_SS_cp (s' := q.2) (b' := 39) S1 (wt_IV_m12 v) b1 b2 b3 b4 b5
        obtain ⟨p1, p2, p3⟩ := e1
        refine wu_SS_rf h1 (wt_IV_m12 v) (fun g hg => ((KK (679 + 110 * g) (by omega)).2.2.2.1 (by omega) (by omega) (by omega)).2) em (by rw [eT]; exact Int.le_refl _) (fun c hc => ?_) (fun c hc => ?_) (fun g hg => ?_) (fun g hg => ?_) (fun g hg k hk => ?_) (fun w hw j hj => ?_) ?_ ?_
        · rw [(p3 c hc).1]; exact ey _
        · rw [(p3 c hc).2]; exact ey _
        · rw [(eq g hg).1]; exact ey _
        · rw [(eq g hg).2.1]; exact ey _
        · show wt_ga y.2 (278 + g) k = _
          rw [(eq g hg).2.2 k hk]; exact ey _
        · show wt_ga y.2 (264 + w) j = _
          rw [e4 w j hj (by omega)]; exact ey _
        · rw [p2]; exact ey _
        · rw [p1]; exact ey _
      · rw [m3] at hi
        have h1 := si.2 i (by omega)
        have ek : wt_ga y.2 (283 + i) = wt_ga z (283 + i) := funext (fa.2 _ (by (try dsimp only); omega))
        have em' : wt_ga y.2 111 = wt_ga z 111 := funext em
        unfold wu_S1
        rw [ek, em', eT]
        exact wu_SS_eq h1 (fun j p q' => fb.2 j (by (try dsimp only); omega)) (fb.1 _ 8 (by (try dsimp only); omega)) (fb.1 _ 9 (by (try dsimp only); omega)) (Int.le_refl _)
end WTQ5
-- 94d.wants.lean.txt
section WTQ6
theorem wu_SC_mk {s s' z z' : wt_St} (h : wu_SC s z) (hH : wu_SH (wt_gf s' 39 9) (wt_gf z' 108 26)) (hW : wu_SW (wt_gf z' 108 39).toInt (wt_ga s' 44) (wt_ga s' 45) (wt_ga s' 46) (wt_ga s' 47) (wt_gf s' 39 8) (fun k => wt_ga z' (264 + k)) (wt_gf z' 108 40)) (ea : ∀ i, 39 < i → i < 44 → ∀ j, wt_ga s' i j = wt_ga s i j) (ea' : ∀ i, i = 121 ∨ i = 124 ∨ i = 275 ∨ i = 276 ∨ (278 ≤ i ∧ i < 282) ∨ i = 111 → ∀ j, wt_ga z' i j = wt_ga z i j) : wu_SC s' z' := by
  have A : ∀ i, 39 < i → i < 44 → wt_ga s' i = wt_ga s i := fun i p q => funext (ea i p q)
  have A' : ∀ i, i = 121 ∨ i = 124 ∨ i = 275 ∨ i = 276 ∨ (278 ≤ i ∧ i < 282) ∨ i = 111 → wt_ga z' i = wt_ga z i := fun i hi => funext (ea' i hi)
  obtain ⟨-, -, h3, h4⟩ := h
  refine ⟨hH, hW, ?_, ?_⟩
  · rw [A' 111 (by omega), A (39 + 1) (by omega) (by omega), A (39 + 2) (by omega) (by omega), A' 121 (by omega), A' 124 (by omega), A' 275 (by omega)]; exact h3
  · rw [A' 111 (by omega), A (39 + 3) (by omega) (by omega), A (39 + 4) (by omega) (by omega), A' 124 (by omega), A' 275 (by omega), A' 276 (by omega)]
    intro g hg
    show wt_ga s (39 + 4) g = wt_ga z 275 g ∧ ((wt_ga z 275 g).toInt ≠ -1 → (∀ k : Nat, (k : Int) < (wt_ga z 276 g).toInt → ∃ l i : Nat, l < 26 ∧ (i : Int) < (wt_ga z 111 l).toInt ∧ (wt_ga z' (278 + g) k).toInt = ((13 * l + i : Nat) : Int) ∧ (wt_ga z 124 (13 * l + i)).toInt = (g : Int) ∧ (wt_ga s (39 + 3) (12 * l + i)).toInt = wt_ct (fun k' => (wt_ga z' (278 + g) k').toInt / 13) (l : Int) k) ∧ ∀ l i : Nat, l < 26 → (i : Int) < (wt_ga z 111 l).toInt → (wt_ga z 124 (13 * l + i)).toInt = (g : Int) → ∃ k : Nat, (k : Int) < (wt_ga z 276 g).toInt ∧ (wt_ga z' (278 + g) k).toInt = ((13 * l + i : Nat) : Int))
    rw [A' (278 + g) (by omega)]
    exact h4 g hg
theorem wu_SC_SW {s z : wt_St} (h : wu_SC s z) : wu_SW (wt_gf z 108 39).toInt (wt_ga s 44) (wt_ga s 45) (wt_ga s 46) (wt_ga s 47) (wt_gf s 39 8) (fun k => wt_ga z (264 + k)) (wt_gf z 108 40) := h.2.1
theorem wu_SC_SH {s z : wt_St} (h : wu_SC s z) : wu_SH (wt_gf s 39 9) (wt_gf z 108 26) := h.1
/-- the wants stand as they were -/
theorem wu_SW_eq {T T' : Int} {s s' z z' : wt_St} (h : wu_SW T (wt_ga s 44) (wt_ga s 45) (wt_ga s 46) (wt_ga s 47) (wt_gf s 39 8) (fun k => wt_ga z (264 + k)) (wt_gf z 108 40)) (hT : T ≤ T') (ea : ∀ i, 43 < i → i < 48 → ∀ j, wt_ga s' i j = wt_ga s i j) (e8 : wt_gf s' 39 8 = wt_gf s 39 8) (ea' : ∀ i, 264 ≤ i → i < 274 → ∀ j, wt_ga z' i j = wt_ga z i j) (e40 : wt_gf z' 108 40 = wt_gf z 108 40) : wu_SW T' (wt_ga s' 44) (wt_ga s' 45) (wt_ga s' 46) (wt_ga s' 47) (wt_gf s' 39 8) (fun k => wt_ga z' (264 + k)) (wt_gf z' 108 40) := by
  have A : ∀ i, 43 < i → i < 48 → wt_ga s' i = wt_ga s i := fun i p q => funext (ea i p q)
  rw [e8, e40, A 44 (by omega) (by omega), A 45 (by omega) (by omega), A 46 (by omega) (by omega), A 47 (by omega) (by omega)]
  refine ⟨h.1, h.2.1, fun k hk => ?_⟩
  obtain ⟨a, b, c⟩ := h.2.2 k hk
  have g := h.2.1
  refine ⟨?_, ⟨b.1, by omega⟩, c⟩
  show wt_ga s 44 k = wt_ga z' (264 + k) 0 ∧ wt_ga s 45 k = wt_ga z' (264 + k) 1 ∧ wt_ga s 46 k = wt_ga z' (264 + k) 2 ∧ wt_ga s 47 k = wt_ga z' (264 + k) 3
  rw [ea' _ (by omega) (by omega), ea' _ (by omega) (by omega), ea' _ (by omega) (by omega), ea' _ (by omega) (by omega)]
  exact a
set_option maxHeartbeats 4000000 in
theorem wr_habit (n : Nat) {x1 : Int32} {s z : wt_St} (sc : wu_SC s z) : wt_HH (wp_ap_habit n x1 s) (wp_md_habit n x1 z) (fun q y => ((q.1 = 1 ∧ wt_gf y.2 108 0 = 1) ∨ (q.1 = 0 ∧ wt_gf y.2 108 0 = 0 ∧ q.2.1 = y.1)) ∧ wu_SC q.2.2 y.2) := by
  have k0 : (0 : Int32).toInt = 0 := by decide
  have k1 : (1 : Int32).toInt = 1 := by decide
  have k2 : (2 : Int32).toInt = 2 := by decide
  unfold wp_md_habit
  obtain ⟨z0, ε0⟩ : ∃ o : wt_St, o = wt_sf z 108 0 (0 : Int32) := ⟨_, rfl⟩
  rw [← ε0]
  have g0 := wt_fr_sf ε0
  have t0 : wt_gf z0 108 0 = 0 := wt_v_sf ε0
  have sc0 : ∀ z' : wt_St, wt_fr (fun i k => i = 108 ∧ k = 0) (fun _ => False) z z' → wu_SC s z' := fun z' g => wu_SC_fr sc (wt_fr.rf (F := fun _ _ => False) (A := fun _ => False)) g (fun _ _ h => h) (fun k hk => by (try dsimp only); omega) (fun _ _ _ h => h) (fun _ _ h => h)
  refine wt_HH_r (wh_in n) (fun q1 h1 => ?_)
  obtain ⟨h1a, h1b⟩ := h1
  rw [h1a]
  have BAD : wt_HH (wp_ap_habit_B14 n x1 (1 : Int32) s) (wp_md_habit_B20 n x1 (1 : Int32) z0) (fun q y => ((q.1 = 1 ∧ wt_gf y.2 108 0 = 1) ∨ (q.1 = 0 ∧ wt_gf y.2 108 0 = 0 ∧ q.2.1 = y.1)) ∧ wu_SC q.2.2 y.2) := by
    unfold wp_ap_habit_B14 wp_md_habit_B20
    refine wt_HH_l (wh_refuse1 n) (fun q hq => ?_)
    subst hq
    dsimp only
    rw [if_neg (by decide)]
    refine wt_HH_r (wh_bad1 n t0 (by decide)) (fun y hy => ?_)
    subst hy
    dsimp only
    rw [if_neg (by decide)]
    exact wt_HH_some ⟨Or.inl ⟨rfl, wt_v_sf rfl⟩, sc0 _ (wt_fr.tr g0 (wt_fr_sf rfl) (fun i k h => h) (fun i h => h))⟩
  unfold wp_ap_habit wp_ap_habit_B9
  rcases h1b with ⟨c1, c2⟩ | ⟨c1, c2, c3⟩
  · rw [if_pos c1]
    refine wt_HH_il (fun _ => BAD) (fun d => wt_HH_il (fun f => ?_) (fun _ => BAD))
    have d' := wt_ncl d
    have f' := wt_clt f
    omega
  · rw [if_neg (show ¬ x1 < 0 from fun d => by have := wt_clt d; omega), if_pos (Int32.lt_iff_toInt_lt.mpr (by omega)), if_neg (by rw [c1]; decide)]
    unfold wp_ap_habit_B14 wp_md_habit_B20
    refine wt_HH_l (wh_refuse0 n) (fun q hq => ?_)
    subst hq
    dsimp only
    rw [if_pos rfl]
    refine wt_HH_r (wh_bad0 n t0) (fun y hy => ?_)
    subst hy
    dsimp only
    rw [if_pos rfl]
    obtain ⟨s1, δ1⟩ : ∃ o : wt_St, o = wt_sf s 39 9 x1 := ⟨_, rfl⟩
    rw [← δ1]
    obtain ⟨z1, ε1⟩ : ∃ o : wt_St, o = wt_sf z0 108 26 x1 := ⟨_, rfl⟩
    rw [← ε1]
    have d1 := wt_fr_sf δ1
    have g1 := wt_fr_sf ε1
    have GZ : wt_fr (fun i k => i = 108 ∧ (k = 0 ∨ k = 26)) (fun _ => False) z z1 := (wt_frw g0 (fun i k h => by (try dsimp only at h ⊢); omega) (fun i h => h)).sf ε1 (by first | decide | ((try dsimp only); omega))
    have e26 : wt_gf z0 108 26 = wt_gf z 108 26 := g0.1 108 26 (by decide)
    refine wt_HH_some ⟨Or.inr ⟨rfl, (g1.1 108 0 (by decide)).trans t0, ?_⟩, wu_SC_mk sc ⟨?_, ?_⟩ (wu_SW_eq (wu_SC_SW sc) (by rw [GZ.1 108 39 (by decide)]; exact Int.le_refl _) (fun i p q => d1.2 i (fun h => h)) (d1.1 39 8 (by decide)) (fun i p q => GZ.2 i (fun h => h)) (GZ.1 108 40 (by decide))) (fun i p q => d1.2 i (fun h => h)) (fun i hi => GZ.2 i (fun h => h))⟩
    · show wt_gf s 39 9 = wt_gf z0 108 26
      rw [e26]; exact (wu_SC_SH sc).1
    · rw [wt_v_sf δ1, wt_v_sf ε1]
    · rw [wt_v_sf δ1]; omega
theorem wr_forget (n : Nat) {s z : wt_St} (sc : wu_SC s z) : wt_HH (wp_ap_forget n s) (wp_md_forget n z) (fun q y => q.1 = y.1 ∧ wu_SC q.2 y.2) := by
  have k0 : (0 : Int32).toInt = 0 := by decide
  unfold wp_ap_forget wp_md_forget
  obtain ⟨z0, ε0⟩ : ∃ o : wt_St, o = wt_sf z 108 0 (0 : Int32) := ⟨_, rfl⟩
  rw [← ε0]
  have g0 := wt_fr_sf ε0
  obtain ⟨s1, δ1⟩ : ∃ o : wt_St, o = wt_sf s 39 8 (0 : Int32) := ⟨_, rfl⟩
  rw [← δ1]
  obtain ⟨z1, ε1⟩ : ∃ o : wt_St, o = wt_sf z0 108 40 (0 : Int32) := ⟨_, rfl⟩
  rw [← ε1]
  have d1 := wt_fr_sf δ1
  have GZ : wt_fr (fun i k => i = 108 ∧ (k = 0 ∨ k = 40)) (fun _ => False) z z1 := (wt_frw g0 (fun i k h => by (try dsimp only at h ⊢); omega) (fun i h => h)).sf ε1 (by first | decide | ((try dsimp only); omega))
  have e40 : wt_gf z0 108 40 = wt_gf z 108 40 := g0.1 108 40 (by decide)
  refine wt_HH_some ⟨?_, wu_SC_mk sc ?_ ⟨?_, ?_, fun k hk => ?_⟩ (fun i p q => d1.2 i (fun h => h)) (fun i hi => GZ.2 i (fun h => h))⟩
  · show wt_gf s 39 8 = wt_gf z0 108 40
    rw [e40]; exact (wu_SC_SW sc).1
  · rw [d1.1 39 9 (by decide), GZ.1 108 26 (by decide)]; exact wu_SC_SH sc
  · rw [wt_v_sf δ1, wt_v_sf ε1]
  · rw [wt_v_sf δ1]; omega
  · rw [wt_v_sf δ1] at hk
    omega
set_option maxHeartbeats 4000000 in
theorem wh_addWanted (n : Nat) {k : Nat} {x1 x2 x3 x4 : Int32} {s : wt_St} (hk : (wt_gf s 39 8).toInt = (k : Int)) (hk10 : k < 10) : wt_H (wp_st_addWanted n 39 x1 x2 x3 x4 s) (fun q => wt_fr (fun i k => i = 39 ∧ k = 8) (fun i => 43 < i ∧ i < 48) s q ∧ wt_gf q 39 8 = (wt_gf s 39 8) + (1 : Int32) ∧ (wt_ga q 44 k = x1 ∧ wt_ga q 45 k = x2 ∧ wt_ga q 46 k = x3 ∧ wt_ga q 47 k = x4) ∧ ∀ i, 43 < i → i < 48 → ∀ j, j ≠ k → wt_ga q i j = wt_ga s i j) := by
  unfold wp_st_addWanted
  refine wt_H_bh (wh_put n (k := k) hk (by rw [show wt_ln (39 + 5) = 10 from by decide]; exact hk10)) (fun q1 ε1 => ?_)
  have f1 := wt_fr_sa ε1
  have e1 : wt_gf q1 39 8 = wt_gf s 39 8 := f1.1 39 8 (fun h => h)
  rw [e1]
  refine wt_H_bh (wh_put n (k := k) hk (by rw [show wt_ln (39 + 6) = 10 from by decide]; exact hk10)) (fun q2 ε2 => ?_)
  have f2 := wt_fr_sa ε2
  have e2 : wt_gf q2 39 8 = wt_gf s 39 8 := (f2.1 39 8 (fun h => h)).trans e1
  rw [e2]
  refine wt_H_bh (wh_put n (k := k) hk (by rw [show wt_ln (39 + 7) = 10 from by decide]; exact hk10)) (fun q3 ε3 => ?_)
  have f3 := wt_fr_sa ε3
  have e3 : wt_gf q3 39 8 = wt_gf s 39 8 := (f3.1 39 8 (fun h => h)).trans e2
  rw [e3]
  refine wt_H_bh (wh_put n (k := k) hk (by rw [show wt_ln (39 + 8) = 10 from by decide]; exact hk10)) (fun q4 ε4 => ?_)
  have f4 := wt_fr_sa ε4
  have e4 : wt_gf q4 39 8 = wt_gf s 39 8 := (f4.1 39 8 (fun h => h)).trans e3
  rw [e4]
  obtain ⟨q5, ε5⟩ : ∃ o : wt_St, o = wt_sf q4 39 8 ((wt_gf s 39 8) + (1 : Int32)) := ⟨_, rfl⟩
  rw [← ε5]
  have f5 := wt_fr_sf ε5
  refine wt_H_some ⟨((((wt_fr.rf.sa ε1 (by first | decide | ((try dsimp only); omega))).sa ε2 (by first | decide | ((try dsimp only); omega))).sa ε3 (by first | decide | ((try dsimp only); omega))).sa ε4 (by first | decide | ((try dsimp only); omega))).sf ε5 ⟨rfl, rfl⟩, wt_v_sf ε5, ⟨?_, ?_, ?_, ?_⟩, fun i p q j hj => ?_⟩
  · rw [f5.2 44 (fun h => h), f4.2 44 (by decide), f3.2 44 (by decide), f2.2 44 (by decide)]; exact wt_v_sa ε1
  · rw [f5.2 45 (fun h => h), f4.2 45 (by decide), f3.2 45 (by decide)]; exact wt_v_sa ε2
  · rw [f5.2 46 (fun h => h), f4.2 46 (by decide)]; exact wt_v_sa ε3
  · rw [f5.2 47 (fun h => h)]; exact wt_v_sa ε4
  · rcases (show i = 44 ∨ i = 45 ∨ i = 46 ∨ i = 47 by omega) with h | h | h | h <;> subst h
    · rw [f5.2 44 (fun h => h), f4.2 44 (by decide), f3.2 44 (by decide), f2.2 44 (by decide)]; exact wt_w_sa ε1 j hj
    · rw [f5.2 45 (fun h => h), f4.2 45 (by decide), f3.2 45 (by decide), ← f1.2 45 (by decide)]; exact wt_w_sa ε2 j hj
    · rw [f5.2 46 (fun h => h), f4.2 46 (by decide), ← f1.2 46 (by decide), ← f2.2 46 (by decide)]; exact wt_w_sa ε3 j hj
    · rw [f5.2 47 (fun h => h), ← f1.2 47 (by decide), ← f2.2 47 (by decide), ← f3.2 47 (by decide)]; exact wt_w_sa ε4 j hj
set_option maxRecDepth 100000 in
set_option maxHeartbeats 8000000 in
theorem wr_want (n : Nat) {x1 x2 x3 x4 : Int32} {s z : wt_St} (rz : wt_RI z) (e34 : wt_gf s 34 4 = wt_gf z 108 39) (sc : wu_SC s z) : wt_HH (wp_ap_want n x1 x2 x3 x4 s) (wp_md_want n x1 x2 x3 x4 z) (fun q y => ((q.1 = 2 ∧ wt_gf y.2 108 0 = 1) ∨ (q.1 = 1 ∧ wt_gf y.2 108 0 = 2) ∨ (q.1 = 0 ∧ wt_gf y.2 108 0 = 0 ∧ q.2.1 = y.1)) ∧ wu_SC q.2.2 y.2) := by
  have k0 : (0 : Int32).toInt = 0 := by decide
  have k1 : (1 : Int32).toInt = 1 := by decide
  have k10 : (10 : Int32).toInt = 10 := by decide
  have k99 : (99 : Int32).toInt = 99 := by decide
  have k100 : (100 : Int32).toInt = 100 := by decide
  have k999 : (999 : Int32).toInt = 999 := by decide
  have hz : 0 ≤ (wt_gf z 108 39).toInt ∧ (wt_gf z 108 39).toInt ≤ 8 := wt_Rf7 rz
  have eT := wt_ceq e34
  have sw := wu_SC_SW sc
  have swn := wt_ceq sw.1
  have sw10 := sw.2.1
  -- the class
  have C : wt_H (wp_ap_want n x1 x2 x3 x4 s) (fun q => ((x1.toInt < 0 ∨ (wt_gf z 108 39).toInt ≤ x1.toInt) ∧ q.1 = 2 ∧ q.2.2 = s) ∨ ((0 ≤ x1.toInt ∧ x1.toInt < (wt_gf z 108 39).toInt) ∧ (((x2.toInt < 1 ∨ 400 < x2.toInt ∨ x3.toInt < 0 ∨ 99 < x3.toInt ∨ x4.toInt < 1 ∨ 999 < x4.toInt) ∧ q.1 = 1 ∧ q.2.2 = s) ∨ ((1 ≤ x2.toInt ∧ x2.toInt ≤ 400 ∧ 0 ≤ x3.toInt ∧ x3.toInt ≤ 99 ∧ 1 ≤ x4.toInt ∧ x4.toInt ≤ 999) ∧ (((wt_gf s 39 8).toInt = 10 ∧ q = (0, (-1 : Int32), s)) ∨ ((wt_gf s 39 8).toInt < 10 ∧ q.1 = 0 ∧ q.2.1 = (wt_gf s 39 8) + (1 : Int32) ∧ wt_fr (fun i k => i = 39 ∧ k = 8) (fun i => 43 < i ∧ i < 48) s q.2.2 ∧ wt_gf q.2.2 39 8 = (wt_gf s 39 8) + (1 : Int32) ∧ (wt_ga q.2.2 44 (Int32.toNatClampNeg (wt_gf s 39 8)) = x1 ∧ wt_ga q.2.2 45 (Int32.toNatClampNeg (wt_gf s 39 8)) = x2 ∧ wt_ga q.2.2 46 (Int32.toNatClampNeg (wt_gf s 39 8)) = x3 ∧ wt_ga q.2.2 47 (Int32.toNatClampNeg (wt_gf s 39 8)) = x4) ∧ ∀ i, 43 < i → i < 48 → ∀ j, j ≠ Int32.toNatClampNeg (wt_gf s 39 8) → wt_ga q.2.2 i j = wt_ga s i j)))))) := by
    unfold wp_ap_want
    refine wt_H_bh (wh_txhas n) (fun q1 h1 => ?_)
    obtain ⟨a1, b1⟩ := h1
    rw [a1]
    unfold wp_ap_want_B16
    rcases b1 with ⟨c1, c2, c3⟩ | ⟨c1, c2⟩
    · rw [if_neg (by rw [c1]; decide)]
      refine wt_H_bh (wh_miss0 n) (fun q hq => ?_)
      subst hq
      dsimp only
      rw [if_pos rfl]
      refine wt_H_bh (wh_copies n) (fun q4 h4 => ?_)
      rcases h4 with ⟨h4, d1, d2⟩ | ⟨h4, d1⟩
      · subst h4
        dsimp only
        rw [if_pos rfl]
        have R1 : ∀ (B : Nat × Int32 × wt_St → Option (Nat × Int32 × wt_St)), (x2.toInt < 1 ∨ 400 < x2.toInt ∨ x3.toInt < 0 ∨ 99 < x3.toInt ∨ x4.toInt < 1 ∨ 999 < x4.toInt) → wt_H ((wp_ap_refuse n (1 : Int32) s).bind fun q6 => if q6.1 = 0 then B q6 else some (q6.1, 0, q6.2.2)) (fun q => ((x1.toInt < 0 ∨ (wt_gf z 108 39).toInt ≤ x1.toInt) ∧ q.1 = 2 ∧ q.2.2 = s) ∨ ((0 ≤ x1.toInt ∧ x1.toInt < (wt_gf z 108 39).toInt) ∧ (((x2.toInt < 1 ∨ 400 < x2.toInt ∨ x3.toInt < 0 ∨ 99 < x3.toInt ∨ x4.toInt < 1 ∨ 999 < x4.toInt) ∧ q.1 = 1 ∧ q.2.2 = s) ∨ ((1 ≤ x2.toInt ∧ x2.toInt ≤ 400 ∧ 0 ≤ x3.toInt ∧ x3.toInt ≤ 99 ∧ 1 ≤ x4.toInt ∧ x4.toInt ≤ 999) ∧ (((wt_gf s 39 8).toInt = 10 ∧ q = (0, (-1 : Int32), s)) ∨ ((wt_gf s 39 8).toInt < 10 ∧ q.1 = 0 ∧ q.2.1 = (wt_gf s 39 8) + (1 : Int32) ∧ wt_fr (fun i k => i = 39 ∧ k = 8) (fun i => 43 < i ∧ i < 48) s q.2.2 ∧ wt_gf q.2.2 39 8 = (wt_gf s 39 8) + (1 : Int32) ∧ (wt_ga q.2.2 44 (Int32.toNatClampNeg (wt_gf s 39 8)) = x1 ∧ wt_ga q.2.2 45 (Int32.toNatClampNeg (wt_gf s 39 8)) = x2 ∧ wt_ga q.2.2 46 (Int32.toNatClampNeg (wt_gf s 39 8)) = x3 ∧ wt_ga q.2.2 47 (Int32.toNatClampNeg (wt_gf s 39 8)) = x4) ∧ ∀ i, 43 < i → i < 48 → ∀ j, j ≠ Int32.toNatClampNeg (wt_gf s 39 8) → wt_ga q.2.2 i j = wt_ga s i j)))))) := by
          intro B hb
          refine wt_H_bh (wh_refuse1 n) (fun q hq => ?_)
          subst hq
          dsimp only
          rw [if_neg (by decide)]
          exact wt_H_some (Or.inr ⟨⟨c2, by omega⟩, Or.inl ⟨hb, rfl, rfl⟩⟩)
        unfold wp_ap_want_B33 wp_ap_want_B38
        refine wt_H_if (fun f => R1 _ (by have := wt_clt f; omega)) (fun f => wt_H_if (fun g => ?_) (fun g => R1 _ (by have := wt_ncl g; omega)))
        have f' := wt_ncl f
        have g' := wt_clt g
        refine wt_H_bh (wh_refuse0 n) (fun q hq => ?_)
        subst hq
        dsimp only
        rw [if_pos rfl]
        unfold wp_ap_want_B55 wp_ap_want_B60
        refine wt_H_if (fun h => R1 _ (by have := wt_clt h; omega)) (fun h => wt_H_if (fun i => ?_) (fun i => R1 _ (by have := wt_ncle i; omega)))
        have h' := wt_ncl h
        have i' := wt_cle i
        refine wt_H_bh (wh_refuse0 n) (fun q hq => ?_)
        subst hq
        dsimp only
        rw [if_pos rfl]
        refine wt_H_if (fun j => ?_) (fun j => ?_)
        · have j' := wt_clt j
          have en := wt_tnI sw10.1
          refine wt_H_bh (wh_addWanted n (k := Int32.toNatClampNeg (wt_gf s 39 8)) (by omega) (by omega)) (fun q10 h10 => ?_)
          obtain ⟨u1, u2, u3, u4⟩ := h10
          exact wt_H_some (Or.inr ⟨⟨c2, by omega⟩, Or.inr ⟨by omega, Or.inr ⟨by omega, rfl, u2, u1, u2, u3, u4⟩⟩⟩)
        · have j' := wt_ncl j
          exact wt_H_some (Or.inr ⟨⟨c2, by omega⟩, Or.inr ⟨by omega, Or.inl ⟨by omega, rfl⟩⟩⟩)
      · subst h4
        dsimp only
        rw [if_neg (by decide)]
        exact wt_H_some (Or.inr ⟨⟨c2, by omega⟩, Or.inl ⟨by omega, rfl, rfl⟩⟩)
    · rw [if_pos c1]
      refine wt_H_bh (wh_miss1 n) (fun q hq => ?_)
      subst hq
      dsimp only
      rw [if_neg (by decide)]
      exact wt_H_some (Or.inl ⟨by omega, rfl, rfl⟩)
  -- the reference
  have M : wt_H (wp_md_want n x1 x2 x3 x4 z) (fun y => ((x1.toInt < 0 ∨ (wt_gf z 108 39).toInt ≤ x1.toInt) ∧ wt_gf y.2 108 0 = 1 ∧ wt_fr (fun i k => i = 108 ∧ k = 0) (fun _ => False) z y.2) ∨ ((0 ≤ x1.toInt ∧ x1.toInt < (wt_gf z 108 39).toInt) ∧ (((x2.toInt < 1 ∨ 400 < x2.toInt ∨ x3.toInt < 0 ∨ 99 < x3.toInt ∨ x4.toInt < 1 ∨ 999 < x4.toInt) ∧ wt_gf y.2 108 0 = 2 ∧ wt_fr (fun i k => i = 108 ∧ k = 0) (fun _ => False) z y.2) ∨ ((1 ≤ x2.toInt ∧ x2.toInt ≤ 400 ∧ 0 ≤ x3.toInt ∧ x3.toInt ≤ 99 ∧ 1 ≤ x4.toInt ∧ x4.toInt ≤ 999) ∧ wt_gf y.2 108 0 = 0 ∧ (((wt_gf z 108 40).toInt = 10 ∧ y.1 = -1 ∧ wt_fr (fun i k => i = 108 ∧ k = 0) (fun _ => False) z y.2) ∨ ((wt_gf z 108 40).toInt ≠ 10 ∧ y.1 = (wt_gf z 108 40) + (1 : Int32) ∧ wt_gf y.2 108 40 = (wt_gf z 108 40) + (1 : Int32) ∧ wt_fr (fun i k => i = 108 ∧ (k = 0 ∨ k = 40)) (fun i => i = 264 + Int32.toNatClampNeg (wt_gf z 108 40)) z y.2 ∧ wt_ga y.2 (264 + Int32.toNatClampNeg (wt_gf z 108 40)) 0 = x1 ∧ wt_ga y.2 (264 + Int32.toNatClampNeg (wt_gf z 108 40)) 1 = x2 ∧ wt_ga y.2 (264 + Int32.toNatClampNeg (wt_gf z 108 40)) 2 = x3 ∧ wt_ga y.2 (264 + Int32.toNatClampNeg (wt_gf z 108 40)) 3 = x4)))))) := by
    unfold wp_md_want
    obtain ⟨z0, ε0⟩ : ∃ o : wt_St, o = wt_sf z 108 0 (0 : Int32) := ⟨_, rfl⟩
    rw [← ε0]
    have g0 := wt_fr_sf ε0
    have t0 : wt_gf z0 108 0 = 0 := wt_v_sf ε0
    have e39 : wt_gf z0 108 39 = wt_gf z 108 39 := g0.1 108 39 (by decide)
    have e40 : wt_gf z0 108 40 = wt_gf z 108 40 := g0.1 108 40 (by decide)
    refine wt_H_bh (wh_isText n (by rw [e39]; exact hz.1) (by rw [e39]; exact hz.2)) (fun y1 h1 => ?_)
    obtain ⟨a2, b2⟩ := h1
    rw [a2]
    rw [e39] at b2
    unfold wp_md_want_B19
    rcases b2 with ⟨d1, d2, d3⟩ | ⟨d1, d2⟩
    · rw [if_neg (by rw [d1]; decide)]
      refine wt_H_bh (wh_bad0 n t0) (fun y hy => ?_)
      subst hy
      dsimp only
      rw [if_pos rfl]
      have R2 : (x2.toInt < 1 ∨ 400 < x2.toInt ∨ x3.toInt < 0 ∨ 99 < x3.toInt ∨ x4.toInt < 1 ∨ 999 < x4.toInt) → wt_H (wp_md_want_B56 n x1 x2 x3 x4 z0) (fun y => ((x1.toInt < 0 ∨ (wt_gf z 108 39).toInt ≤ x1.toInt) ∧ wt_gf y.2 108 0 = 1 ∧ wt_fr (fun i k => i = 108 ∧ k = 0) (fun _ => False) z y.2) ∨ ((0 ≤ x1.toInt ∧ x1.toInt < (wt_gf z 108 39).toInt) ∧ (((x2.toInt < 1 ∨ 400 < x2.toInt ∨ x3.toInt < 0 ∨ 99 < x3.toInt ∨ x4.toInt < 1 ∨ 999 < x4.toInt) ∧ wt_gf y.2 108 0 = 2 ∧ wt_fr (fun i k => i = 108 ∧ k = 0) (fun _ => False) z y.2) ∨ ((1 ≤ x2.toInt ∧ x2.toInt ≤ 400 ∧ 0 ≤ x3.toInt ∧ x3.toInt ≤ 99 ∧ 1 ≤ x4.toInt ∧ x4.toInt ≤ 999) ∧ wt_gf y.2 108 0 = 0 ∧ (((wt_gf z 108 40).toInt = 10 ∧ y.1 = -1 ∧ wt_fr (fun i k => i = 108 ∧ k = 0) (fun _ => False) z y.2) ∨ ((wt_gf z 108 40).toInt ≠ 10 ∧ y.1 = (wt_gf z 108 40) + (1 : Int32) ∧ wt_gf y.2 108 40 = (wt_gf z 108 40) + (1 : Int32) ∧ wt_fr (fun i k => i = 108 ∧ (k = 0 ∨ k = 40)) (fun i => i = 264 + Int32.toNatClampNeg (wt_gf z 108 40)) z y.2 ∧ wt_ga y.2 (264 + Int32.toNatClampNeg (wt_gf z 108 40)) 0 = x1 ∧ wt_ga y.2 (264 + Int32.toNatClampNeg (wt_gf z 108 40)) 1 = x2 ∧ wt_ga y.2 (264 + Int32.toNatClampNeg (wt_gf z 108 40)) 2 = x3 ∧ wt_ga y.2 (264 + Int32.toNatClampNeg (wt_gf z 108 40)) 3 = x4)))))) := by
        intro hb
        unfold wp_md_want_B56 wp_md_want_B61
        refine wt_H_bh (wh_bad1 n t0 (by decide)) (fun y hy => ?_)
        subst hy
        dsimp only
        rw [if_neg (by decide)]
        exact wt_H_some (Or.inr ⟨⟨d2, d3⟩, Or.inl ⟨hb, wt_v_sf rfl, wt_fr.tr g0 (wt_fr_sf rfl) (fun i k h => h) (fun i h => h)⟩⟩)
      refine wt_H_bh (wh_isCopies n) (fun y5 h5 => ?_)
      obtain ⟨a5, b5⟩ := h5
      rw [a5]
      rcases b5 with ⟨f1, f2, f3⟩ | ⟨f1, f2⟩
      · rw [if_neg (by rw [f1]; decide)]
        refine wt_H_bh (wh_in n) (fun y18 h18 => ?_)
        obtain ⟨a18, b18⟩ := h18
        rw [a18]
        rcases b18 with ⟨p1, p2⟩ | ⟨p1, p2, p3⟩
        · rw [if_pos p1]
          exact R2 (by omega)
        · rw [if_neg (by rw [p1]; decide)]
          refine wt_H_bh (wh_in n) (fun y20 h20 => ?_)
          obtain ⟨a20, b20⟩ := h20
          rw [a20]
          rcases b20 with ⟨r1, r2⟩ | ⟨r1, r2, r3⟩
          · rw [if_pos r1]
            exact R2 (by omega)
          · rw [if_neg (by rw [r1]; decide)]
            unfold wp_md_want_B61
            refine wt_H_bh (wh_bad0 n t0) (fun y hy => ?_)
            subst hy
            dsimp only
            rw [if_pos rfl, e40, wt_tn0, wt_tn1]
            refine wt_H_if (fun c => ?_) (fun c => ?_)
            · have c' := wt_ceq c
              exact wt_H_some (Or.inr ⟨⟨d2, d3⟩, Or.inr ⟨by omega, t0, Or.inl ⟨by omega, rfl, g0⟩⟩⟩)
            · have c' := wt_nceq c
              have n2 : Int32.toNatClampNeg (2 : Int32) = 2 := by decide
              have n3 : Int32.toNatClampNeg (3 : Int32) = 3 := by decide
              refine wt_H_gd (fun _ => ?_)
              refine wt_H_gd (fun _ => ?_)
              obtain ⟨s1, δ1⟩ : ∃ o : wt_St, o = wt_sa z0 (264 + Int32.toNatClampNeg (wt_gf z 108 40)) 0 x1 := ⟨_, rfl⟩
              rw [← δ1]
              have h1 := wt_fr_sa δ1
              have e41 : wt_gf s1 108 40 = wt_gf z 108 40 := (h1.1 108 40 (fun h => h)).trans e40
              rw [e41]
              refine wt_H_gd (fun _ => ?_)
              refine wt_H_gd (fun _ => ?_)
              obtain ⟨s2, δ2⟩ : ∃ o : wt_St, o = wt_sa s1 (264 + Int32.toNatClampNeg (wt_gf z 108 40)) 1 x2 := ⟨_, rfl⟩
              rw [← δ2]
              have h2 := wt_fr_sa δ2
              have e42 : wt_gf s2 108 40 = wt_gf z 108 40 := (h2.1 108 40 (fun h => h)).trans e41
              rw [e42]
              refine wt_H_gd (fun _ => ?_)
              refine wt_H_gd (fun _ => ?_)
              rw [n2]
              obtain ⟨s3, δ3⟩ : ∃ o : wt_St, o = wt_sa s2 (264 + Int32.toNatClampNeg (wt_gf z 108 40)) 2 x3 := ⟨_, rfl⟩
              rw [← δ3]
              have h3 := wt_fr_sa δ3
              have e43 : wt_gf s3 108 40 = wt_gf z 108 40 := (h3.1 108 40 (fun h => h)).trans e42
              rw [e43]
              refine wt_H_gd (fun _ => ?_)
              refine wt_H_gd (fun _ => ?_)
              rw [n3]
              obtain ⟨s4, δ4⟩ : ∃ o : wt_St, o = wt_sa s3 (264 + Int32.toNatClampNeg (wt_gf z 108 40)) 3 x4 := ⟨_, rfl⟩
              rw [← δ4]
              have h4 := wt_fr_sa δ4
              have e44 : wt_gf s4 108 40 = wt_gf z 108 40 := (h4.1 108 40 (fun h => h)).trans e43
              rw [e44]
              obtain ⟨s5, δ5⟩ : ∃ o : wt_St, o = wt_sf s4 108 40 ((wt_gf z 108 40) + (1 : Int32)) := ⟨_, rfl⟩
              rw [← δ5]
              have h5 := wt_fr_sf δ5
              have G0 : wt_fr (fun i k => i = 108 ∧ (k = 0 ∨ k = 40)) (fun i => i = 264 + Int32.toNatClampNeg (wt_gf z 108 40)) z z0 := wt_frw g0 (fun i k h => ⟨h.1, Or.inl h.2⟩) (fun i h => h.elim)
              refine wt_H_some (Or.inr ⟨⟨d2, d3⟩, Or.inr ⟨by omega, ?_, Or.inr ⟨by omega, wt_v_sf δ5, wt_v_sf δ5, ((((G0.sa δ1 rfl).sa δ2 rfl).sa δ3 rfl).sa δ4 rfl).sf δ5 ⟨rfl, Or.inr rfl⟩, ?_, ?_, ?_, ?_⟩⟩⟩)
              · show wt_gf s5 108 0 = 0
                rw [h5.1 108 0 (by decide), h4.1 108 0 (fun h => h), h3.1 108 0 (fun h => h), h2.1 108 0 (fun h => h), h1.1 108 0 (fun h => h)]; exact t0
              · rw [h5.2 _ (fun h => h), wt_w_sa δ4 0 (by omega), wt_w_sa δ3 0 (by omega), wt_w_sa δ2 0 (by omega)]; exact wt_v_sa δ1
              · rw [h5.2 _ (fun h => h), wt_w_sa δ4 1 (by omega), wt_w_sa δ3 1 (by omega)]; exact wt_v_sa δ2
              · rw [h5.2 _ (fun h => h), wt_w_sa δ4 2 (by omega)]; exact wt_v_sa δ3
              · rw [h5.2 _ (fun h => h)]; exact wt_v_sa δ4
      · rw [if_pos f1]
        exact R2 (by omega)
    · rw [if_pos d1]
      refine wt_H_bh (wh_bad1 n t0 (by decide)) (fun y hy => ?_)
      subst hy
      dsimp only
      rw [if_neg (by decide)]
      exact wt_H_some (Or.inl ⟨d2, wt_v_sf rfl, wt_fr.tr g0 (wt_fr_sf rfl) (fun i k h => h) (fun i h => h)⟩)
  have sc0 : ∀ z' : wt_St, wt_fr (fun i k => i = 108 ∧ k = 0) (fun _ => False) z z' → wu_SC s z' := fun z' g => wu_SC_fr sc (wt_fr.rf (F := fun _ _ => False) (A := fun _ => False)) g (fun _ _ h => h) (fun k hk => by (try dsimp only); omega) (fun _ _ _ h => h) (fun _ _ h => h)
  refine wt_HH_of C M (fun q y hq hy => ?_)
  rcases hq with ⟨a1, a2, a3⟩ | ⟨a1, hq⟩
  · rcases hy with ⟨b1, b2, b3⟩ | ⟨b1, -⟩
    · exact ⟨Or.inl ⟨a2, b2⟩, by rw [a3]; exact sc0 _ b3⟩
    · omega
  · rcases hy with ⟨b1, -⟩ | ⟨b1, hy⟩
    · omega
    · rcases hq with ⟨c1, c2, c3⟩ | ⟨c1, hq⟩
      · rcases hy with ⟨d1, d2, d3⟩ | ⟨d1, -⟩
        · exact ⟨Or.inr (Or.inl ⟨c2, d2⟩), by rw [c3]; exact sc0 _ d3⟩
        · omega
      · rcases hy with ⟨d1, -⟩ | ⟨d1, d2, hy⟩
        · omega
        · rcases hq with ⟨f1, f2⟩ | ⟨f1, f2, f3, f4, f5, f6, f7⟩
          · rcases hy with ⟨g1, g2, g3⟩ | ⟨g1, -⟩
            · subst f2
              exact ⟨Or.inr (Or.inr ⟨rfl, d2, g2.symm⟩), sc0 _ g3⟩
            · omega
          · rcases hy with ⟨g1, -⟩ | ⟨g1, g2, g3, g4, g5, g6, g7, g8⟩
            · omega
            · have en : Int32.toNatClampNeg (wt_gf z 108 40) = Int32.toNatClampNeg (wt_gf s 39 8) := by rw [sw.1]
              have ens := wt_tnI sw10.1
              have ei := wt_i1 (c := wt_gf s 39 8) (by omega)
              refine ⟨Or.inr (Or.inr ⟨f2, d2, by rw [f3, g2, sw.1]⟩), wu_SC_mk sc ?_ ⟨by rw [f5, g3, sw.1], by rw [f5]; omega, fun k hk => ?_⟩ (fun i p q => f4.2 i (by (try dsimp only); omega)) (fun i hi => g4.2 i (by (try dsimp only); omega))⟩
              · rw [f4.1 39 9 (by decide), g4.1 108 26 (by decide)]; exact wu_SC_SH sc
              · rw [f5, ei] at hk
                have e39 : wt_gf y.2 108 39 = wt_gf z 108 39 := g4.1 108 39 (by decide)
                rw [e39]
                show (wt_ga q.2.2 44 k = wt_ga y.2 (264 + k) 0 ∧ wt_ga q.2.2 45 k = wt_ga y.2 (264 + k) 1 ∧ wt_ga q.2.2 46 k = wt_ga y.2 (264 + k) 2 ∧ wt_ga q.2.2 47 k = wt_ga y.2 (264 + k) 3) ∧ _
                by_cases hc : k = Int32.toNatClampNeg (wt_gf s 39 8)
                · rw [hc]
                  rw [en] at g5 g6 g7 g8
                  rw [f6.1, f6.2.1, f6.2.2.1, f6.2.2.2, g5, g6, g7, g8]
                  exact ⟨⟨rfl, rfl, rfl, rfl⟩, ⟨a1.1, by omega⟩, by omega, by omega, by omega⟩
                · rw [f7 44 (by omega) (by omega) k hc, f7 45 (by omega) (by omega) k hc, f7 46 (by omega) (by omega) k hc, f7 47 (by omega) (by omega) k hc, g4.2 (264 + k) (by (try dsimp only); omega), g4.2 (264 + k) (by (try dsimp only); omega), g4.2 (264 + k) (by (try dsimp only); omega), g4.2 (264 + k) (by (try dsimp only); omega)]
                  exact sw.2.2 k (by omega)
end WTQ6
-- 94e.kaserl.lean.txt
section WTQ7
theorem wt_HH_and {α β : Type} {p : Option α} {p' : Option β} {Q : α → β → Prop} {P : α → Prop} {P' : β → Prop} (h : wt_HH p p' Q) (h1 : wt_H p P) (h2 : wt_H p' P') : wt_HH p p' (fun a b => Q a b ∧ P a ∧ P' b) := fun a b e e' => ⟨h a b e e', h1 a e, h2 b e'⟩
theorem wu_SI0 {s z : wt_St} (h : wt_gf s 0 14 = 0) (h' : wt_gf z 108 41 = 0) : wu_SI s z := ⟨h.trans h'.symm, fun i hi => by
  have k0 : (0 : Int32).toInt = 0 := by decide
  rw [h'] at hi
  omega⟩
set_option maxHeartbeats 8000000 in
theorem wr_kaseR (n : Nat) (hn : 4294967297 < n) {x1 : Int32} {s z : wt_St} (v : wt_IV z) (tb : wt_TB s z) (lc : wu_LC s z) (sc : wu_SC s z) (si : wu_SI s z) : wt_HH (wp_ap_kase n x1 s) (wp_md_kase n x1 z) (fun q y => ((q.1 = 1 ∧ wt_gf y.2 108 0 = 1) ∨ (q.1 = 0 ∧ wt_gf y.2 108 0 = 0 ∧ q.2.1 = y.1)) ∧ wu_LC q.2.2 y.2 ∧ wu_SC q.2.2 y.2 ∧ wu_SI q.2.2 y.2) := by
  have g41 : 0 ≤ (wt_gf z 108 41).toInt ∧ (wt_gf z 108 41).toInt ≤ 3 := wt_Rf9 v.1
  refine (wt_HH_and (wr_kase n hn tb v.1) (wq_ap_kase n hn x1 s).h (wq_md_kase n hn x1 z v.1 v.2.1).h).imp (fun q y h => ?_)
  obtain ⟨h, hfq, hfy⟩ := h
  have fq := hfq.1
  have fy := hfy.1
  rcases h with ⟨e1, e2, e3, e4⟩ | ⟨e1, e2, e3, -, e5⟩
  · refine ⟨Or.inl ⟨e1, e2⟩, ?_⟩
    rw [e3]
    have f0 : wt_fr (fun _ _ => False) (fun _ => False) s s := wt_fr.rf
    exact ⟨wu_LC_fr lc f0 e4 (fun h => h) (fun _ _ h => h) (by decide) (fun _ _ h => h), wu_SC_fr sc f0 e4 (fun _ _ h => h) (fun k hk => by (try dsimp only); omega) (fun _ _ _ h => h) (fun _ _ h => h), wu_SI_fr si f0 e4 g41.2 (fun _ _ _ h => h) (fun k hk => by (try dsimp only); omega) (fun _ _ _ h => h) (fun _ _ h => h)⟩
  · refine ⟨Or.inr ⟨e1, e2, e3⟩, ?_⟩
    rcases e5 with ⟨-, f1, f2⟩ | kc
    · exact ⟨wu_LC_fr lc f1 f2 (by (try dsimp only); omega) (fun i h => by (try dsimp only); omega) (by (try dsimp only); omega) (fun i h => by (try dsimp only); omega), wu_SC_fr sc f1 f2 (fun k hk => by (try dsimp only); omega) (fun k hk => by (try dsimp only); omega) (fun i p q => by (try dsimp only); omega) (fun i h => by (try dsimp only); omega), wu_SI_fr si f1 f2 g41.2 (fun i k h => by (try dsimp only); omega) (fun k hk => by (try dsimp only); omega) (fun i p q => by (try dsimp only); omega) (fun i h => by (try dsimp only); omega)⟩
    · obtain ⟨c1, c2, c3, c4, c5, c6, c7, c8, c9, c10, c11, c12⟩ := kc
      refine ⟨⟨fun l hl => ⟨(c1 l hl).1, (c1 l hl).2.1, (c1 l hl).2.2.1⟩, c2, c3, c4, c5, c6⟩, ⟨?_, ?_, fun l hl => ⟨fun i hi => ?_, fun i hi hj => ?_⟩, fun g hg => ⟨?_, fun hne => ?_⟩⟩, wu_SI0 c11 c12⟩
      · rw [fq.1 39 9 (by (try dsimp only); omega), fy.1 108 26 (by (try dsimp only); omega)]; exact wu_SC_SH sc
      · exact wu_SW_eq (wu_SC_SW sc) (by rw [fy.1 108 39 (by (try dsimp only); omega)]; exact Int.le_refl _) (fun i p q => fq.2 i (by (try dsimp only); omega)) (fq.1 39 8 (by (try dsimp only); omega)) (fun i p q => fy.2 i (by (try dsimp only); omega)) (fy.1 108 40 (by (try dsimp only); omega))
      · obtain ⟨d1, d2, d3, d4⟩ := c1 l hl
        rw [← d1] at hi
        refine ⟨d4 i hi, ?_, Or.inl ?_⟩
        · show wt_ga q.2.2 41 (12 * l + i) = _
          rw [c7 _ (by omega), c8 _ (by omega)]
        · rw [c8 _ (by omega)]; exact wt_lm1
      · show (wt_ga q.2.2 41 (12 * l + i)).toInt = -1
        rw [c7 _ (by omega)]; exact wt_lm1
      · show wt_ga q.2.2 43 g = _
        rw [c9 g hg, c10 g hg]
      · rw [c10 g hg] at hne
        exact absurd wt_lm1 hne
set_option maxHeartbeats 8000000 in
theorem wr_tongueR (n : Nat) (hn : 4294967297 < n) {x1 : Int32} {s z : wt_St} (v : wt_IV z) (tb : wt_TB s z) (lc : wu_LC s z) (sc : wu_SC s z) (si : wu_SI s z) : wt_HH (wp_ap_tongue n x1 s) (wp_md_tongue n x1 z) (fun q y => wu_LC q.2.2 y.2 ∧ wu_SC q.2.2 y.2 ∧ wu_SI q.2.2 y.2) := by
  have k0 : (0 : Int32).toInt = 0 := by decide
  have g41 : 0 ≤ (wt_gf z 108 41).toInt ∧ (wt_gf z 108 41).toInt ≤ 3 := wt_Rf9 v.1
  refine (wt_HH_and (wr_tongue n hn tb v.1) (wq_ap_tongue n hn x1 s).h (wq_md_tongue n hn x1 z v.1).h).imp (fun q y h => ?_)
  obtain ⟨h, hfq, hfy⟩ := h
  have fq := hfq.1
  have fy := hfy.1
  have lcn := wu_LC_fr lc fq fy (by (try dsimp only); omega) (fun i h => by (try dsimp only); omega) (by (try dsimp only); omega) (fun i h => by (try dsimp only); omega)
  rcases h with ⟨e1, e2, e3, e4⟩ | ⟨e1, e2, e3, -, e5⟩
  · have f0 : wt_fr (fun _ _ => False) (fun _ => False) s s := wt_fr.rf
    refine ⟨lcn, ?_⟩
    rw [e3]
    exact ⟨wu_SC_fr sc f0 e4 (fun _ _ h => h) (fun k hk => by (try dsimp only); omega) (fun _ _ _ h => h) (fun _ _ h => h), wu_SI_fr si f0 e4 g41.2 (fun _ _ _ h => h) (fun k hk => by (try dsimp only); omega) (fun _ _ _ h => h) (fun _ _ h => h)⟩
  · rcases e5 with ⟨-, f1, f2⟩ | te
    · exact ⟨lcn, wu_SC_fr sc f1 f2 (fun k hk => by (try dsimp only); omega) (fun k hk => by (try dsimp only); omega) (fun i p q => by (try dsimp only); omega) (fun i h => by unfold wt_gA; omega), wu_SI_fr si f1 f2 g41.2 (fun i k h => by (try dsimp only); omega) (fun k hk => by (try dsimp only); omega) (fun i p q => by (try dsimp only); omega) (fun i h => by unfold wt_gA; omega)⟩
    · obtain ⟨-, ⟨z34, z8, z14⟩, p41, p43, ⟨z39, z40, z41⟩, ap⟩ := te
      obtain ⟨ap1, ap2, ap3⟩ := ap
      have e111 : wt_ga y.2 111 = wt_ga z 111 := funext (fy.2 111 (by (try dsimp only); omega))
      refine ⟨lcn, ⟨?_, ⟨z8.trans z40.symm, by rw [z8]; omega, fun k hk => by rw [z8] at hk; omega⟩, fun l hl => ?_, fun g hg => ⟨?_, fun hne => absurd (ap1 g hg) hne⟩⟩, wu_SI0 z14 z41⟩
      · rw [fq.1 39 9 (by (try dsimp only); omega), fy.1 108 26 (by (try dsimp only); omega)]; exact wu_SC_SH sc
      · rw [e111]
        obtain ⟨s1, s2⟩ := sc.2.2.1 l hl
        have m12 := v.2.1 l
        refine ⟨fun i hi => ?_, fun i hi hj => ?_⟩
        · obtain ⟨d1, d2, d3⟩ := s1 i hi
          have d1' : wt_ga s 40 (12 * l + i) = wt_ga z 121 (13 * l + i) := d1
          have on : wt_ga y.2 124 (13 * l + i) = -1 := by
            by_cases hin : ∃ g k : Nat, g < 4 ∧ (wt_ga z 275 g).toInt ≠ -1 ∧ (k : Int) < (wt_ga z 276 g).toInt ∧ Int32.toNatClampNeg (wt_ga z (278 + g) k) = 13 * l + i
            · obtain ⟨g, k, g4, gne, kl, ke⟩ := hin
              rw [← ke]
              exact ap2 g g4 gne k kl
            · rw [ap3 _ (fun g g4 gne k kl ke => hin ⟨g, k, g4, gne, kl, ke⟩)]
              rcases d3 with d3 | ⟨g, g4, gv, gne⟩
              · exact wt_eqI (d3.trans wt_lm1.symm)
              · exfalso
                obtain ⟨k, k1, k2⟩ := ((sc.2.2.2 g g4).2 gne).2 l i hl hi gv
                exact hin ⟨g, k, g4, gne, k1, wt_tnN k2⟩
          refine ⟨?_, ?_, Or.inl ?_⟩
          · show wt_ga q.2.2 40 (12 * l + i) = wt_ga y.2 121 (13 * l + i)
            rw [fq.2 40 (by (try dsimp only); omega), fy.2 121 (by (try dsimp only); omega)]; exact d1'
          · show wt_ga q.2.2 41 (12 * l + i) = _
            rw [p41 _ (by omega), on]
          · rw [on]; exact wt_lm1
        · show (wt_ga q.2.2 41 (12 * l + i)).toInt = -1
          rw [p41 _ (by omega)]; exact wt_lm1
      · show wt_ga q.2.2 43 g = _
        rw [p43 g hg]
        exact wt_eqI ((ap1 g hg).trans wt_lm1.symm).symm
end WTQ7
-- 95a.stock.lean.txt
section WTQ8
/-! the pieces in the case: how many of a letter are good for so many copies -/
def wu_rf (s : wt_St) (a : Nat) (c : Int) (j : Nat) : Int := if (wt_ga s 41 j).toInt = -1 ∧ c ≤ (wt_ga s a j).toInt then 1 else 0
def wu_rd (s : wt_St) (a : Nat) (c : Int) (l : Nat) : Int := wt_sum (fun i => wu_rf s a c (12 * l + i)) (Int32.toNatClampNeg (wt_ga s 5 l))
/-- pieces of the class beside those of the reference: what a row has left, where they lie -/
def wu_SK (a : Nat) (s z : wt_St) : Prop := ∀ l, l < 26 → wt_ga s 5 l = wt_ga z 111 l ∧ (0 ≤ (wt_ga s 5 l).toInt ∧ (wt_ga s 5 l).toInt ≤ 12) ∧ ∀ i : Nat, (i : Int) < (wt_ga s 5 l).toInt → wt_ga s a (12 * l + i) = wt_ga z 121 (13 * l + i) ∧ wt_ga s 41 (12 * l + i) = wt_ga z 124 (13 * l + i)
theorem wu_SK_of {s z : wt_St} (lc : wu_LC s z) (sc : wu_SC s z) : wu_SK 40 s z := fun l hl => by
  obtain ⟨a1, a2, a3⟩ := lc.1 l hl
  refine ⟨a1, ⟨a2, a3⟩, fun i hi => ?_⟩
  rw [a1] at hi
  obtain ⟨b1, b2, -⟩ := (sc.2.2.1 l hl).1 i hi
  exact ⟨b1, b2⟩
theorem wu_SK_fr {a : Nat} {s s' z z' : wt_St} {F F' : Nat → Nat → Prop} {A A' : Nat → Prop} (h : wu_SK a s z) (f : wt_fr F A s s') (g : wt_fr F' A' z z') (h1 : ¬ A 5 ∧ ¬ A a ∧ ¬ A 41) (h2 : ¬ A' 111 ∧ ¬ A' 121 ∧ ¬ A' 124) : wu_SK a s' z' := fun l hl => by
  rw [f.2 5 h1.1, g.2 111 h2.1]
  obtain ⟨a1, a2, a3⟩ := h l hl
  refine ⟨a1, a2, fun i hi => ?_⟩
  rw [f.2 a h1.2.1, f.2 41 h1.2.2, g.2 121 h2.2.1, g.2 124 h2.2.2]
  exact a3 i hi
theorem wu_rd_go {a : Nat} {s z : wt_St} (h : wu_SK a s z) {l : Nat} (hl : l < 26) (c : Int) : wu_rd s a c l = wt_go z c l := by
  obtain ⟨a1, a2, a3⟩ := h l hl
  unfold wu_rd wt_go
  rw [← a1]
  have e := wt_tnI a2.1
  refine wt_sum_congr _ (fun i hi => ?_)
  obtain ⟨b1, b2⟩ := a3 i (by omega)
  show wu_rf s a c (12 * l + i) = wt_gf1 z c (13 * l + i)
  unfold wu_rf wt_gf1
  rw [b1, b2]
theorem wu_rd_bd {a : Nat} {s : wt_St} {l : Nat} (c : Int) (h12 : (wt_ga s 5 l).toInt ≤ 12) : 0 ≤ wu_rd s a c l ∧ wu_rd s a c l ≤ 12 := by
  have h := wt_sum_bd (f := fun i => wu_rf s a c (12 * l + i)) (c := 1) (Int32.toNatClampNeg (wt_ga s 5 l)) (fun i _ => by
    show 0 ≤ wu_rf s a c (12 * l + i) ∧ wu_rf s a c (12 * l + i) ≤ 1
    unfold wu_rf
    split <;> omega)
  have h2 := wt_tnle (b := 12) h12
  unfold wu_rd
  omega
theorem wh_pieces (n : Nat) (hn : 4294967297 < n) {l : Nat} {x : Int32} {s : wt_St} (hx : x.toInt = (l : Int)) (hl : l < 26) : wt_H (wp_sk_pieces n x s) (fun q => q = (wt_ga s 5 l, s)) := by
  unfold wp_sk_pieces
  refine wt_H_bh (wh_look n hn (k := l) hx (by rw [show wt_ln 5 = 26 from by decide]; exact hl)) (fun q hq => ?_)
  subst hq
  exact wt_H_some rfl
theorem wh_lies (n : Nat) (hn : 4294967297 < n) {j : Nat} {x : Int32} {s : wt_St} (hx : x.toInt = (j : Int)) (hj : j < 312) : wt_H (wp_sk_lies n x s) (fun q => q.2 = s ∧ ((q.1 = 1 ∧ (wt_ga s 41 j).toInt = -1) ∨ (q.1 = 0 ∧ (wt_ga s 41 j).toInt ≠ -1))) := by
  unfold wp_sk_lies
  refine wt_H_bh (wh_look n hn (k := j) hx (by rw [show wt_ln 41 = 312 from by decide]; exact hj)) (fun q hq => ?_)
  subst hq
  dsimp only
  refine wt_H_if (fun c => ?_) (fun c => ?_)
  · exact wt_H_some ⟨rfl, Or.inl ⟨rfl, (wt_ceq c).trans wt_lm1⟩⟩
  · have c' := wt_nceq c
    rw [wt_lm1] at c'
    exact wt_H_some ⟨rfl, Or.inr ⟨rfl, c'⟩⟩
theorem wt_piece {x1 i : Int32} {l : Nat} (hx : x1.toInt = (l : Int)) (hl : l < 26) (h0 : 0 ≤ i.toInt) (h1 : i.toInt < 13) : ((x1 * (12 : Int32)) + i).toInt = ((12 * l + Int32.toNatClampNeg i : Nat) : Int) := by
  have k12 : (12 : Int32).toInt = 12 := by decide
  have em := wt_mulR (x := x1) k12 (by omega) (by omega)
  have ea := wt_addE (x := x1 * (12 : Int32)) (y := i) (by omega) (by omega)
  have et := wt_tnI h0
  omega
theorem wh_ready (n : Nat) (hn : 4294967297 < n) {a l : Nat} {x1 x2 : Int32} {s : wt_St} (ha : wt_ln a = 312) (hx : x1.toInt = (l : Int)) (hl : l < 26) (h0 : 0 ≤ (wt_ga s 5 l).toInt) (h12 : (wt_ga s 5 l).toInt ≤ 12) : wt_H (wp_sk_ready n a x1 x2 s) (fun q => q.2 = s ∧ q.1.toInt = wu_rd s a x2.toInt l) := by
  have k0 : (0 : Int32).toInt = 0 := by decide
  have k1 : (1 : Int32).toInt = 1 := by decide
  unfold wp_sk_ready
  refine wt_H_it (fun t : Int32 × Int32 × wt_St => t.2.2 = s ∧ 0 ≤ t.2.1.toInt ∧ t.2.1.toInt ≤ (wt_ga s 5 l).toInt ∧ t.1.toInt = wt_sum (fun i => wu_rf s a x2.toInt (12 * l + i)) (Int32.toNatClampNeg t.2.1) ∧ 0 ≤ t.1.toInt ∧ t.1.toInt ≤ t.2.1.toInt) (fun K t I hK => ?_) n _ ⟨rfl, by show 0 ≤ ((0 : Int32)).toInt; omega, by show ((0 : Int32)).toInt ≤ _; omega, by show ((0 : Int32)).toInt = wt_sum _ (Int32.toNatClampNeg (0 : Int32)); rw [wt_tn0]; exact k0, by show 0 ≤ ((0 : Int32)).toInt; omega, by show ((0 : Int32)).toInt ≤ ((0 : Int32)).toInt; omega⟩
  obtain ⟨i0, i1, i2, i3, i4, i5⟩ := I
  have et := wt_tnI i1
  unfold wp_sk_ready_B6
  rw [i0]
  refine wt_H_bh (wh_pieces n hn hx hl) (fun q1 h1 => ?_)
  subst h1
  dsimp only
  refine wt_H_if (fun c => ?_) (fun c => ?_)
  · have c' := wt_cle c
    refine wt_H_some ⟨rfl, ?_⟩
    show t.1.toInt = _
    rw [i3]
    unfold wu_rd
    rw [show Int32.toNatClampNeg t.2.1 = Int32.toNatClampNeg (wt_ga s 5 l) by have := wt_tnI h0; omega]
  · have c' := wt_ncle c
    have ei := wt_i1 (c := t.2.1) (by omega)
    have ep := wt_piece hx hl i1 (by omega)
    have en : Int32.toNatClampNeg (t.2.1 + (1 : Int32)) = Int32.toNatClampNeg t.2.1 + 1 := by have := wt_tnI (x := t.2.1 + (1 : Int32)) (by omega); omega
    have B : ∀ y : Int32, y.toInt = wu_rf s a x2.toInt (12 * l + Int32.toNatClampNeg t.2.1) → wt_H (wp_sk_ready_B51 n a x1 x2 t.2.1 K t.1 y s) (fun q => q.2 = s ∧ q.1.toInt = wu_rd s a x2.toInt l) := by
      intro y hy
      have hy2 : 0 ≤ y.toInt ∧ y.toInt ≤ 1 := by
        rw [hy]
        unfold wu_rf
        split <;> omega
      have ea := wt_addE (x := t.1) (y := y) (by omega) (by omega)
      unfold wp_sk_ready_B51
      refine hK _ ⟨rfl, by show 0 ≤ (t.2.1 + (1 : Int32)).toInt; omega, by show (t.2.1 + (1 : Int32)).toInt ≤ _; omega, ?_, by show 0 ≤ (t.1 + y).toInt; omega, by show (t.1 + y).toInt ≤ (t.2.1 + (1 : Int32)).toInt; omega⟩
      show (t.1 + y).toInt = wt_sum _ (Int32.toNatClampNeg (t.2.1 + (1 : Int32)))
      rw [en]
      show _ = wt_sum _ (Int32.toNatClampNeg t.2.1) + wu_rf s a x2.toInt (12 * l + Int32.toNatClampNeg t.2.1)
      omega
    refine wt_H_bh (wh_lies n hn (j := 12 * l + Int32.toNatClampNeg t.2.1) (by omega) (by omega)) (fun q3 h3 => ?_)
    obtain ⟨e3, h3⟩ := h3
    rw [e3]
    unfold wp_sk_ready_B50
    rcases h3 with ⟨z, h3⟩ | ⟨z, h3⟩
    · rw [if_neg (by rw [z]; decide)]
      refine wt_H_bh (wh_look n hn (k := 12 * l + Int32.toNatClampNeg t.2.1) (by omega) (by omega)) (fun q5 h5 => ?_)
      subst h5
      dsimp only
      refine wt_H_if (fun d => B _ ?_) (fun d => B _ ?_)
      · have d' := wt_clt d
        unfold wu_rf
        rw [if_neg (by omega), k0]
      · have d' := wt_ncl d
        unfold wu_rf
        rw [if_pos ⟨h3, by omega⟩, k1]
    · rw [if_pos z]
      refine B _ ?_
      unfold wu_rf
      rw [if_neg (fun h => h3 h.1), k0]
theorem wh_lacking (n : Nat) (hn : 4294967297 < n) {a1 a3 : Nat} {x2 : Int32} {s : wt_St} (h1 : wt_ln a1 = 26) (h3 : wt_ln a3 = 312) (hm : ∀ l, l < 26 → 0 ≤ (wt_ga s 5 l).toInt ∧ (wt_ga s 5 l).toInt ≤ 12) : wt_H (wp_sk_lacking n a1 a3 x2 s) (fun q => q.2 = s ∧ wt_fst 26 (fun l => wu_rd s a3 x2.toInt l < (wt_ga s a1 l).toInt) q.1) := by
  have k0 : (0 : Int32).toInt = 0 := by decide
  have hl26 : (nI (wt_ln a1)).toInt = 26 := by rw [h1]; exact nI_toInt (by omega)
  unfold wp_sk_lacking
  refine wt_H_it (fun t : Int32 × wt_St => t.2 = s ∧ 0 ≤ t.1.toInt ∧ ∀ l : Nat, (l : Int) < t.1.toInt → ¬ wu_rd s a3 x2.toInt l < (wt_ga s a1 l).toInt) (fun K t I hK => ?_) n _ ⟨rfl, by show 0 ≤ ((0 : Int32)).toInt; omega, fun k hk => absurd (show (k : Int) < ((0 : Int32)).toInt from hk) (by omega)⟩
  obtain ⟨i0, i1, i2⟩ := I
  have et := wt_tnI i1
  unfold wp_sk_lacking_B3
  rw [i0]
  refine wt_H_if (fun c => ?_) (fun c => ?_)
  · have c' := wt_cle c
    exact wt_H_some ⟨rfl, Or.inr ⟨rfl, fun v hv => i2 v (by omega)⟩⟩
  · have c' := wt_ncle c
    have ei := wt_i1 (c := t.1) (by omega)
    refine wt_H_gd (fun _ => ?_)
    have m := hm (Int32.toNatClampNeg t.1) (by omega)
    have rb := wu_rd_bd (a := a3) x2.toInt m.2
    have NX : ¬ wu_rd s a3 x2.toInt (Int32.toNatClampNeg t.1) < (wt_ga s a1 (Int32.toNatClampNeg t.1)).toInt → wt_H (wp_sk_lacking_B35 n a1 a3 x2 t.1 K s) (fun q => q.2 = s ∧ wt_fst 26 (fun l => wu_rd s a3 x2.toInt l < (wt_ga s a1 l).toInt) q.1) := fun hx => by
      unfold wp_sk_lacking_B35
      refine hK _ ⟨rfl, by show 0 ≤ (t.1 + (1 : Int32)).toInt; omega, fun l hl => ?_⟩
      have hl' : (l : Int) < (t.1 + (1 : Int32)).toInt := hl
      by_cases hc : l = Int32.toNatClampNeg t.1
      · rw [hc]; exact hx
      · exact i2 l (by omega)
    refine wt_H_if (fun d => NX (by have := wt_cle d; omega)) (fun d => ?_)
    refine wt_H_bh (wh_ready n hn h3 (l := Int32.toNatClampNeg t.1) (by omega) (by omega) m.1 m.2) (fun q4 h4 => ?_)
    obtain ⟨e4, h4⟩ := h4
    rw [e4]
    refine wt_H_gd (fun _ => ?_)
    refine wt_H_if (fun f => NX (by have := wt_cle f; omega)) (fun f => ?_)
    have f' := wt_ncle f
    exact wt_H_some ⟨rfl, Or.inl ⟨Int32.toNatClampNeg t.1, by omega, by (try dsimp only); omega, by omega, fun v hv => i2 v (by omega)⟩⟩
theorem wh_lackingM (n : Nat) (hn : 4294967297 < n) {x1 : Int32} {z : wt_St} (r : wt_RI z) : wt_H (wp_md_lacking n x1 z) (fun q => q.2 = z ∧ wt_fst 26 (fun l => wt_go z x1.toInt l < (wt_ga z 287 l).toInt) q.1) := by
  have k0 : (0 : Int32).toInt = 0 := by decide
  have k26 : (26 : Int32).toInt = 26 := by decide
  unfold wp_md_lacking
  refine wt_H_it (fun t : Int32 × wt_St => t.2 = z ∧ 0 ≤ t.1.toInt ∧ ∀ l : Nat, (l : Int) < t.1.toInt → ¬ wt_go z x1.toInt l < (wt_ga z 287 l).toInt) (fun K t I hK => ?_) n _ ⟨rfl, by show 0 ≤ ((0 : Int32)).toInt; omega, fun k hk => absurd (show (k : Int) < ((0 : Int32)).toInt from hk) (by omega)⟩
  obtain ⟨i0, i1, i2⟩ := I
  have et := wt_tnI i1
  unfold wp_md_lacking_B2
  rw [i0]
  refine wt_H_if (fun c => ?_) (fun c => ?_)
  · have c' := wt_cle c
    exact wt_H_some ⟨rfl, Or.inr ⟨rfl, fun v hv => i2 v (by omega)⟩⟩
  · have c' := wt_ncle c
    have ei := wt_i1 (c := t.1) (by omega)
    refine wt_H_gd (fun _ => ?_)
    refine wt_H_bh (wq_md_goodForP n hn t.1 x1 z r i1 (by omega)).h (fun q hq => ?_)
    obtain ⟨e, hq⟩ := hq
    rw [e]
    refine wt_H_if (fun d => ?_) (fun d => ?_)
    · have d' := wt_cle d
      refine hK _ ⟨rfl, by show 0 ≤ (t.1 + (1 : Int32)).toInt; omega, fun l hl => ?_⟩
      have hl' : (l : Int) < (t.1 + (1 : Int32)).toInt := hl
      by_cases hc : l = Int32.toNatClampNeg t.1
      · rw [hc]; omega
      · exact i2 l (by omega)
    · have d' := wt_ncle d
      exact wt_H_some ⟨rfl, Or.inl ⟨Int32.toNatClampNeg t.1, by omega, by (try dsimp only); omega, by omega, fun v hv => i2 v (by omega)⟩⟩
/-- what a text needs is laid into a row -/
theorem wh_spell (n : Nat) (hn : 4294967297 < n) {a t : Nat} {x : Int32} {s : wt_St} (ha : wt_ln a = 26) (h37 : a ≠ 37) (hx : x.toInt = (t : Int)) (ht : t < 8) : wt_H (wp_tx_spell n a x s) (fun q => wt_fr (fun _ _ => False) (fun i => i = a) s q ∧ ∀ l, l < 26 → wt_ga q a l = wt_ga s 37 (26 * t + l)) := by
  have k0 : (0 : Int32).toInt = 0 := by decide
  have k26 : (26 : Int32).toInt = 26 := by decide
  have hl26 : (nI (wt_ln a)).toInt = 26 := by rw [ha]; exact nI_toInt (by omega)
  unfold wp_tx_spell
  refine wt_H_it (fun u : Int32 × wt_St => 0 ≤ u.1.toInt ∧ wt_fr (fun _ _ => False) (fun i => i = a) s u.2 ∧ ∀ l : Nat, (l : Int) < u.1.toInt → wt_ga u.2 a l = wt_ga s 37 (26 * t + l)) (fun K u I hK => ?_) n _ ⟨by show 0 ≤ ((0 : Int32)).toInt; omega, wt_fr.rf, fun k hk => absurd (show (k : Int) < ((0 : Int32)).toInt from hk) (by omega)⟩
  obtain ⟨i1, f, i2⟩ := I
  have et := wt_tnI i1
  unfold wp_tx_spell_B2 wp_tx_needOf
  refine wt_H_if (fun c => ?_) (fun c => ?_)
  · have c' := wt_cle c
    exact wt_H_some ⟨f, fun l hl => i2 l (by omega)⟩
  · have c' := wt_ncle c
    have ei := wt_i1 (c := u.1) (by omega)
    have em := wt_mulR (x := x) k26 (by omega) (by omega)
    have ea := wt_addE (x := x * (26 : Int32)) (y := u.1) (by omega) (by omega)
    simp only [Option.bind_assoc]
    refine wt_H_bh (wh_look n hn (k := 26 * t + Int32.toNatClampNeg u.1) (by omega) (by rw [show wt_ln 37 = 208 from by decide]; omega)) (fun q hq => ?_)
    subst hq
    show wt_H (if u.1 < 0 ∨ (wt_ln a) ≤ Int32.toNatClampNeg u.1 then none else K ((u.1 + (1 : Int32)), (wt_sa u.2 a (Int32.toNatClampNeg u.1) (wt_ga u.2 37 (26 * t + Int32.toNatClampNeg u.1))))) _
    refine wt_H_gd (fun _ => ?_)
    obtain ⟨s1, ε⟩ : ∃ o : wt_St, o = wt_sa u.2 a (Int32.toNatClampNeg u.1) (wt_ga u.2 37 (26 * t + Int32.toNatClampNeg u.1)) := ⟨_, rfl⟩
    rw [← ε]
    refine hK _ ⟨by show 0 ≤ (u.1 + (1 : Int32)).toInt; omega, f.sa ε rfl, fun l hl => ?_⟩
    have hl' : (l : Int) < (u.1 + (1 : Int32)).toInt := hl
    show wt_ga s1 a l = _
    by_cases hc : l = Int32.toNatClampNeg u.1
    · rw [hc, wt_v_sa ε]; exact f.2 37 (fun h => h37 h.symm) _
    · rw [wt_w_sa ε l hc]; exact i2 l (by omega)
end WTQ8
-- 95b.choose.lean.txt
section WTQ9
/-! the next piece that the habit takes, on both sides -/
def wu_bt (xt i : Int32) : Prop := ((xt >>> (i &&& (31 : Int32))) &&& (1 : Int32)) = 0
theorem wu_bt0 (i : Int32) : wu_bt 0 i := by
  unfold wu_bt
  simp
theorem wh_cell (n : Nat) {l i : Nat} {x y : Int32} {z : wt_St} (hx : x.toInt = (l : Int)) (hy : y.toInt = (i : Int)) (hl : l < 26) (hi : i < 13) : wt_H (wp_md_cell n x y z) (fun q => q.2 = z ∧ q.1.toInt = ((13 * l + i : Nat) : Int)) := by
  have k13 : (13 : Int32).toInt = 13 := by decide
  have em := wt_mulL (x := (13 : Int32)) (y := x) k13 (by omega) (by omega)
  have ea := wt_addE (x := (13 : Int32) * x) (y := y) (by omega) (by omega)
  unfold wp_md_cell
  exact wt_H_some ⟨rfl, by (try dsimp only); omega⟩
theorem wt_nIt {x : Int32} (h : 0 ≤ x.toInt) : x = nI (Int32.toNatClampNeg x) := by
  have e := wt_tnI h
  have b := wt_bd x
  exact wt_eqI (by rw [nI_toInt (by omega)]; omega)
set_option maxRecDepth 100000 in
set_option maxHeartbeats 8000000 in
theorem wr_choose (n : Nat) (hn : 4294967297 < n) {a l m : Nat} {x1 x2 xt : Int32} {s z : wt_St} (ha : wt_ln a = 312) (hx : x1.toInt = (l : Int)) (hl : l < 26) (hm : (wt_ga s 5 l).toInt = (m : Int)) (hm2 : (wt_ga z 111 l).toInt = (m : Int)) (hm12 : m ≤ 12) (hh : wt_gf s 39 9 = wt_gf z 108 26) (hav : ∀ i, i < m → ((wu_bt xt (nI i) ∧ (wt_ga s 41 (12 * l + i)).toInt = -1) ↔ (wt_ga z 124 (13 * l + i)).toInt = -1) ∧ ((wt_ga z 124 (13 * l + i)).toInt = -1 → wt_ga s a (12 * l + i) = wt_ga z 121 (13 * l + i))) : wt_HH (wp_sk_choose n a x1 x2 xt s) (wp_md_nextPiece n x1 x2 z) (fun q y => q.2 = s ∧ y.2 = z ∧ ((q.1 = -1 ∧ y.1 = -1) ∨ ∃ i, i < m ∧ q.1.toInt = ((12 * l + i : Nat) : Int) ∧ y.1.toInt = ((13 * l + i : Nat) : Int) ∧ (wt_ga z 124 (13 * l + i)).toInt = -1 ∧ x2.toInt ≤ (wt_ga z 121 (13 * l + i)).toInt)) := by
  have k0 : (0 : Int32).toInt = 0 := by decide
  have etl : Int32.toNatClampNeg x1 = l := wt_tnN hx
  unfold wp_sk_choose wp_md_nextPiece
  refine wt_HH_it (fun (t : Int32 × Int32 × wt_St) (u : Int32 × Int32 × wt_St) => t.2.2 = s ∧ u.2.2 = z ∧ u.2.1 = t.2.1 ∧ 0 ≤ t.2.1.toInt ∧ t.2.1.toInt ≤ (m : Int) ∧ ((t.1 = -1 ∧ u.1 = -1) ∨ ∃ i, i < m ∧ t.1.toInt = ((12 * l + i : Nat) : Int) ∧ u.1.toInt = ((13 * l + i : Nat) : Int) ∧ (wt_ga z 124 (13 * l + i)).toInt = -1 ∧ x2.toInt ≤ (wt_ga z 121 (13 * l + i)).toInt)) (fun K K' t u I hK => ?_) n n _ _ ⟨rfl, rfl, rfl, by show 0 ≤ ((0 : Int32)).toInt; omega, by show ((0 : Int32)).toInt ≤ _; omega, Or.inl ⟨rfl, rfl⟩⟩
  obtain ⟨i0, j0, i1, i2, i3, i4⟩ := I
  have et := wt_tnI i2
  unfold wp_sk_choose_B6 wp_md_nextPiece_B5
  rw [i0, j0, i1, etl]
  refine wt_HH_l (wh_pieces n hn hx hl) (fun q1 h1 => ?_)
  subst h1
  dsimp only
  refine wt_HH_gr (fun _ => ?_)
  by_cases hc : (m : Int) ≤ t.2.1.toInt
  · rw [if_pos (Int32.le_iff_toInt_le.mpr (by omega)), if_pos (Int32.le_iff_toInt_le.mpr (by omega))]
    exact wt_HH_some ⟨rfl, rfl, i4⟩
  · rw [if_neg (fun h => by have := wt_cle h; omega), if_neg (fun h => by have := wt_cle h; omega)]
    have ei := wt_i1 (c := t.2.1) (by omega)
    have ep := wt_piece hx hl i2 (by omega)
    obtain ⟨av1, av2⟩ := hav (Int32.toNatClampNeg t.2.1) (by omega)
    rw [← wt_nIt i2] at av1
    -- none is changed for it, or it is the new one
    have NO : wt_HH (wp_sk_choose_B83 n a x1 x2 xt t.1 t.2.1 K s) (wp_md_nextPiece_B99 n x1 x2 u.1 t.2.1 K' z) (fun q y => q.2 = s ∧ y.2 = z ∧ ((q.1 = -1 ∧ y.1 = -1) ∨ ∃ i, i < m ∧ q.1.toInt = ((12 * l + i : Nat) : Int) ∧ y.1.toInt = ((13 * l + i : Nat) : Int) ∧ (wt_ga z 124 (13 * l + i)).toInt = -1 ∧ x2.toInt ≤ (wt_ga z 121 (13 * l + i)).toInt)) := by
      unfold wp_sk_choose_B83 wp_md_nextPiece_B99
      exact hK _ _ ⟨rfl, rfl, rfl, by show 0 ≤ (t.2.1 + (1 : Int32)).toInt; omega, by show (t.2.1 + (1 : Int32)).toInt ≤ _; omega, i4⟩
    have YES : ∀ v w : Int32, v.toInt = ((12 * l + Int32.toNatClampNeg t.2.1 : Nat) : Int) → w.toInt = ((13 * l + Int32.toNatClampNeg t.2.1 : Nat) : Int) → (wt_ga z 124 (13 * l + Int32.toNatClampNeg t.2.1)).toInt = -1 → x2.toInt ≤ (wt_ga z 121 (13 * l + Int32.toNatClampNeg t.2.1)).toInt → wt_HH (wp_sk_choose_B79 n a x1 x2 xt t.2.1 v K s) (wp_md_nextPiece_B96 n x1 x2 t.2.1 w K' z) (fun q y => q.2 = s ∧ y.2 = z ∧ ((q.1 = -1 ∧ y.1 = -1) ∨ ∃ i, i < m ∧ q.1.toInt = ((12 * l + i : Nat) : Int) ∧ y.1.toInt = ((13 * l + i : Nat) : Int) ∧ (wt_ga z 124 (13 * l + i)).toInt = -1 ∧ x2.toInt ≤ (wt_ga z 121 (13 * l + i)).toInt)) := by
      intro v w hv hw ho hle
      unfold wp_sk_choose_B79 wp_md_nextPiece_B96 wp_sk_choose_B83 wp_md_nextPiece_B99
      exact hK _ _ ⟨rfl, rfl, rfl, by show 0 ≤ (t.2.1 + (1 : Int32)).toInt; omega, by show (t.2.1 + (1 : Int32)).toInt ≤ _; omega, Or.inr ⟨Int32.toNatClampNeg t.2.1, by omega, hv, hw, ho, hle⟩⟩
    refine wt_HH_l (wh_look n hn (k := 12 * l + Int32.toNatClampNeg t.2.1) (by omega) (by omega)) (fun q3 h3 => ?_)
    subst h3
    dsimp only
    refine wt_HH_r (wh_cell n hx (i := Int32.toNatClampNeg t.2.1) (by omega) hl (by omega)) (fun y3 g3 => ?_)
    obtain ⟨g3a, g3b⟩ := g3
    have e3 : Int32.toNatClampNeg y3.1 = 13 * l + Int32.toNatClampNeg t.2.1 := wt_tnN g3b
    rw [g3a, e3]
    refine wt_HH_gr (fun _ => ?_)
    by_cases hon : (wt_ga z 124 (13 * l + Int32.toNatClampNeg t.2.1)).toInt = -1
    · obtain ⟨b1, b2⟩ := av1.mpr hon
      have el := av2 hon
      rw [if_pos (show ((xt >>> (t.2.1 &&& (31 : Int32))) &&& (1 : Int32)) = 0 from b1), if_pos (wt_eqI (hon.trans wt_lm1.symm))]
      refine wt_HH_l (wh_lies n hn (j := 12 * l + Int32.toNatClampNeg t.2.1) (by omega) (by omega)) (fun q5 h5 => ?_)
      obtain ⟨e5, h5⟩ := h5
      rw [e5]
      rcases h5 with ⟨h5, -⟩ | ⟨-, h5⟩
      · rw [if_neg (by rw [h5]; decide)]
        refine wt_HH_gr (fun _ => ?_)
        rw [el]
        by_cases hle : x2.toInt ≤ (wt_ga z 121 (13 * l + Int32.toNatClampNeg t.2.1)).toInt
        · rw [if_neg (fun h => by have := wt_clt h; omega), if_pos (Int32.le_iff_toInt_le.mpr hle)]
          rcases i4 with ⟨c1, c2⟩ | ⟨ib, c1, c2, c3, c4, c5⟩
          · rw [if_pos c1, if_pos c2]
            exact YES _ _ ep g3b hon hle
          · rw [if_neg (fun h => by have := wt_ceq h; rw [wt_lm1] at this; omega), if_neg (fun h => by have := wt_ceq h; rw [wt_lm1] at this; omega)]
            have eu : Int32.toNatClampNeg u.1 = 13 * l + ib := wt_tnN c3
            have eb := (hav ib c1).2 c4
            refine wt_HH_l (wh_look n hn (k := 12 * l + ib) c2 (by omega)) (fun q9 h9 => ?_)
            subst h9
            dsimp only
            rw [eb, eu]
            unfold wp_sk_comesFirst
            rw [hh]
            refine wt_HH_ir (fun d => ?_) (fun d => ?_)
            · rw [if_pos d]
              refine wt_HH_gr (fun _ => ?_)
              refine wt_HH_gr (fun _ => ?_)
              refine wt_HH_ir (fun f => ?_) (fun f => ?_)
              · rw [if_pos f]
                show wt_HH (if (0 : Int32) = 0 then wp_sk_choose_B83 n a x1 x2 xt t.1 t.2.1 K s else wp_sk_choose_B79 n a x1 x2 xt t.2.1 ((x1 * (12 : Int32)) + t.2.1) K s) _ _
                rw [if_pos (show (0 : Int32) = 0 from rfl)]
                exact NO
              · rw [if_neg f]
                show wt_HH (if (1 : Int32) = 0 then wp_sk_choose_B83 n a x1 x2 xt t.1 t.2.1 K s else wp_sk_choose_B79 n a x1 x2 xt t.2.1 ((x1 * (12 : Int32)) + t.2.1) K s) _ _
                rw [if_neg (show ¬ (1 : Int32) = 0 by decide)]
                exact YES _ _ ep g3b hon hle
            · rw [if_neg d]
              refine wt_HH_gr (fun _ => ?_)
              refine wt_HH_gr (fun _ => ?_)
              refine wt_HH_ir (fun f => ?_) (fun f => ?_)
              · rw [if_pos f]
                show wt_HH (if (0 : Int32) = 0 then wp_sk_choose_B83 n a x1 x2 xt t.1 t.2.1 K s else wp_sk_choose_B79 n a x1 x2 xt t.2.1 ((x1 * (12 : Int32)) + t.2.1) K s) _ _
                rw [if_pos (show (0 : Int32) = 0 from rfl)]
                exact NO
              · rw [if_neg f]
                show wt_HH (if (1 : Int32) = 0 then wp_sk_choose_B83 n a x1 x2 xt t.1 t.2.1 K s else wp_sk_choose_B79 n a x1 x2 xt t.2.1 ((x1 * (12 : Int32)) + t.2.1) K s) _ _
                rw [if_neg (show ¬ (1 : Int32) = 0 by decide)]
                exact YES _ _ ep g3b hon hle
        · rw [if_pos (Int32.lt_iff_toInt_lt.mpr (by omega)), if_neg (fun h => by have := wt_cle h; omega)]
          exact NO
      · exact absurd b2 h5
    · rw [if_neg (fun h => hon ((wt_ceq h).trans wt_lm1))]
      refine wt_HH_il (fun b1 => ?_) (fun _ => NO)
      refine wt_HH_l (wh_lies n hn (j := 12 * l + Int32.toNatClampNeg t.2.1) (by omega) (by omega)) (fun q5 h5 => ?_)
      obtain ⟨e5, h5⟩ := h5
      rw [e5]
      rcases h5 with ⟨-, h5⟩ | ⟨h5, -⟩
      · exact absurd (av1.mp ⟨b1, h5⟩) hon
      · rw [if_pos h5]
        exact NO
end WTQ9
-- 95c.stand.lean.txt
section WTQ10
theorem wt_HH_rb {α β β' β'' : Type} {p : Option α} {x : Option β} {f : β → Option β'} {g : β' → Option β''} {P : β → Prop} {Q : α → β'' → Prop} (h : wt_H x P) (k : ∀ a, P a → wt_HH p ((f a).bind g) Q) : wt_HH p ((x.bind f).bind g) Q := by
  cases x with
  | none => exact wt_HH_nr
  | some a => exact k a (h a rfl)
/-- pieces of a text are laid on page g, letter by letter -/
def wu_ST (g : Nat) (s0 z0 s z : wt_St) (l i K : Nat) : Prop := (wt_fr (fun _ _ => False) (fun i => i = 41 ∨ i = 42) s0 s ∧ wt_fr (fun i k => i = 108 ∧ k = 54) (fun i => i = 124 ∨ i = 288) z0 z) ∧ ((wt_gf z 108 54).toInt = (K : Int) ∧ K ≤ 108) ∧ (∀ l' i' : Nat, l' < 26 → (i' : Int) < (wt_ga z0 111 l').toInt → wt_ga s 41 (12 * l' + i') = wt_ga z 124 (13 * l' + i') ∧ (wt_ga z 124 (13 * l' + i') = wt_ga z0 124 (13 * l' + i') ∨ ((wt_ga z0 124 (13 * l' + i')).toInt = -1 ∧ (wt_ga z 124 (13 * l' + i')).toInt = (g : Int))) ∧ ((wt_ga z 124 (13 * l' + i')).toInt ≠ (g : Int) → wt_ga s 42 (12 * l' + i') = wt_ga s0 42 (12 * l' + i'))) ∧ (∀ l' i' : Nat, l' < 26 → i' < 12 → (wt_ga z0 111 l').toInt ≤ (i' : Int) → wt_ga s 41 (12 * l' + i') = wt_ga s0 41 (12 * l' + i')) ∧ (∀ k : Nat, k < K → ∃ l' i' : Nat, l' < 26 ∧ (i' : Int) < (wt_ga z0 111 l').toInt ∧ (wt_ga z 288 k).toInt = ((13 * l' + i' : Nat) : Int) ∧ (wt_ga z 124 (13 * l' + i')).toInt = (g : Int) ∧ (wt_ga s 42 (12 * l' + i')).toInt = wt_ct (fun k' => (wt_ga z 288 k').toInt / 13) (l' : Int) k) ∧ (∀ l' i' : Nat, l' < 26 → (i' : Int) < (wt_ga z0 111 l').toInt → (wt_ga z 124 (13 * l' + i')).toInt = (g : Int) → ∃ k : Nat, k < K ∧ (wt_ga z 288 k).toInt = ((13 * l' + i' : Nat) : Int)) ∧ wt_ct (fun k => (wt_ga z 288 k).toInt / 13) (l : Int) K = (i : Int) ∧ ∀ l'' : Nat, l < l'' → wt_ct (fun k => (wt_ga z 288 k).toInt / 13) (l'' : Int) K = 0
theorem wt_ct_s (f : Nat → Int) (l : Int) (m : Nat) : wt_ct f l (m + 1) = wt_ct f l m + if f m = l then 1 else 0 := rfl
set_option maxRecDepth 100000 in
set_option maxHeartbeats 8000000 in
theorem wr_standLoop (n : Nat) (hn : 4294967297 < n) {g : Nat} {x1 x2 x3 : Int32} {s0 z0 : wt_St} (hg : x3.toInt = (g : Int)) (hg4 : g < 4) (sk : wu_SK 40 s0 z0) (hh : wt_gf s0 39 9 = wt_gf z0 108 26) (nd : ∀ l, l < 26 → wt_ga s0 78 l = wt_ga z0 287 l) (h54 : (wt_gf z0 108 54).toInt = 0) (no : ∀ l i : Nat, l < 26 → (i : Int) < (wt_ga z0 111 l).toInt → (wt_ga z0 124 (13 * l + i)).toInt ≠ (g : Int)) : wt_HH (wt_it (wp_pg_stand_B53 n x1 x2 x3) n ((0 : Int32), s0)) (wt_it (wp_md_takes_B18 n x2 x3) n ((0 : Int32), z0)) (fun q y => y.1 = 1 ∧ ∃ s K, q = (x3, wt_sa s 43 g x1) ∧ wu_ST g s0 z0 s y.2 26 0 K) := by
  have k0 : (0 : Int32).toInt = 0 := by decide
  have k1 : (1 : Int32).toInt = 1 := by decide
  have k26 : (26 : Int32).toInt = 26 := by decide
  have l41 : wt_ln 41 = 312 := by decide
  have l42 : wt_ln 42 = 312 := by decide
  refine wt_HH_it (fun (t : Int32 × wt_St) (u : Int32 × wt_St) => u.1 = t.1 ∧ 0 ≤ t.1.toInt ∧ t.1.toInt ≤ 26 ∧ ∃ K, wu_ST g s0 z0 t.2 u.2 (Int32.toNatClampNeg t.1) 0 K) (fun KA KM t u I hK => ?_) n n _ _ ⟨rfl, by show 0 ≤ ((0 : Int32)).toInt; omega, by show ((0 : Int32)).toInt ≤ 26; omega, 0, ⟨wt_fr.rf, wt_fr.rf⟩, ⟨h54, by omega⟩, fun l' i' hl hi => ⟨((sk l' hl).2.2 i' (by rw [(sk l' hl).1]; exact hi)).2, Or.inl rfl, fun _ => rfl⟩, fun _ _ _ _ _ => rfl, fun k hk => absurd hk (by omega), fun l' i' hl hi ho => absurd ho (no l' i' hl hi), rfl, fun _ _ => rfl⟩
  obtain ⟨e1, i0, i1, K, st⟩ := I
  have et := wt_tnI i0
  unfold wp_pg_stand_B53 wp_md_takes_B18
  rw [e1]
  by_cases hc : (26 : Int) ≤ t.1.toInt
  · rw [if_pos (Int32.le_iff_toInt_le.mpr (by omega)), if_pos (Int32.le_iff_toInt_le.mpr (by omega))]
    refine wt_HH_l (wh_put n (k := g) hg (by rw [show wt_ln 43 = 4 from by decide]; exact hg4)) (fun q7 ε7 => ?_)
    subst ε7
    have e26 : Int32.toNatClampNeg t.1 = 26 := by omega
    rw [e26] at st
    exact wt_HH_some ⟨rfl, t.2, K, rfl, st⟩
  · rw [if_neg (fun h => by have := wt_cle h; omega), if_neg (fun h => by have := wt_cle h; omega)]
    have ei := wt_i1 (c := t.1) (by omega)
    refine wt_HH_it (fun (p : Int32 × wt_St) (r : Int32 × wt_St) => r.1 = p.1 ∧ 0 ≤ p.1.toInt ∧ ∃ K, wu_ST g s0 z0 p.2 r.2 (Int32.toNatClampNeg t.1) (Int32.toNatClampNeg p.1) K) (fun KB KN p r J hK2 => ?_) n n _ _ ⟨rfl, by show 0 ≤ ((0 : Int32)).toInt; omega, K, by show wu_ST g s0 z0 t.2 u.2 _ (Int32.toNatClampNeg (0 : Int32)) K; rw [wt_tn0]; exact st⟩
    obtain ⟨f1, j0, K, st⟩ := J
    have ep := wt_tnI j0
    obtain ⟨⟨fs, fz⟩, ⟨s1, s2⟩, s3, s4, s5, s6, s7, s8⟩ := st
    unfold wp_pg_stand_B66 wp_md_takes_B27
    rw [f1]
    refine wt_HH_gl (fun _ => ?_)
    refine wt_HH_gr (fun _ => ?_)
    have nde : wt_ga p.2 78 (Int32.toNatClampNeg t.1) = wt_ga r.2 287 (Int32.toNatClampNeg t.1) := by
      rw [fs.2 78 (by decide), fz.2 287 (by decide)]
      exact nd _ (by omega)
    rw [nde]
    by_cases hd : (wt_ga r.2 287 (Int32.toNatClampNeg t.1)) ≤ p.1
    · rw [if_pos hd, if_pos hd]
      refine hK _ _ ⟨rfl, by show 0 ≤ (t.1 + (1 : Int32)).toInt; omega, by show (t.1 + (1 : Int32)).toInt ≤ 26; omega, K, ⟨fs, fz⟩, ⟨s1, s2⟩, s3, s4, s5, s6, ?_, fun l'' hl'' => ?_⟩
      · have e := wt_tnI (x := t.1 + (1 : Int32)) (by omega)
        exact s8 _ (by show _ < Int32.toNatClampNeg (t.1 + (1 : Int32)); omega)
      · have e := wt_tnI (x := t.1 + (1 : Int32)) (by omega)
        exact s8 _ (by have hl : Int32.toNatClampNeg (t.1 + (1 : Int32)) < l'' := hl''; omega)
    · rw [if_neg hd, if_neg hd]
      have hd' := wt_ncle hd
      obtain ⟨m, em⟩ : ∃ m : Nat, (wt_ga s0 5 (Int32.toNatClampNeg t.1)).toInt = (m : Int) := ⟨_, (wt_tnI (sk _ (show Int32.toNatClampNeg t.1 < 26 by omega)).2.1.1).symm⟩
      obtain ⟨k1', k2', k3'⟩ := sk (Int32.toNatClampNeg t.1) (by omega)
      have em0 : (wt_ga z0 111 (Int32.toNatClampNeg t.1)).toInt = (m : Int) := by rw [← k1']; exact em
      refine wt_HH_b (wr_choose n hn (a := 40) (l := Int32.toNatClampNeg t.1) (m := m) (xt := (0 : Int32)) (by decide) (by omega) (by omega) (by rw [fs.2 5 (by decide)]; exact em) (by rw [fz.2 111 (by decide)]; exact em0) (by omega) (by rw [fs.1 39 9 (fun h => h), fz.1 108 26 (by decide)]; exact hh) (fun i hi => ?_)) (fun q10 y6 h10 => ?_)
      · obtain ⟨c1, c2, c3⟩ := s3 (Int32.toNatClampNeg t.1) i (by omega) (by omega)
        refine ⟨⟨fun h => by rw [← c1]; exact h.2, fun h => ⟨wu_bt0 _, by rw [c1]; exact h⟩⟩, fun _ => ?_⟩
        rw [fs.2 40 (by decide), fz.2 121 (by decide)]
        exact (k3' i (by omega)).1
      · obtain ⟨a1, a2, a3⟩ := h10
        rw [a1, a2]
        refine wt_HH_gr (fun gd => ?_)
        have gd' := wt_ixn gd
        rcases a3 with ⟨-, b2⟩ | ⟨i1', b1, b2, b3, b4, b5⟩
        · exfalso
          have := wt_ceq b2
          rw [wt_lm1] at this
          omega
        · have ey : Int32.toNatClampNeg y6.1 = 13 * Int32.toNatClampNeg t.1 + i1' := wt_tnN b3
          rw [ey]
          refine wt_HH_l (wh_put n (k := 12 * Int32.toNatClampNeg t.1 + i1') b2 (by rw [l41]; omega)) (fun q11 δ1 => ?_)
          refine wt_HH_l (wh_put n (k := 12 * Int32.toNatClampNeg t.1 + i1') b2 (by rw [l42]; omega)) (fun q12 δ2 => ?_)
          have d1 := wt_fr_sa δ1
          have d2 := wt_fr_sa δ2
          obtain ⟨z1, ε1⟩ : ∃ o : wt_St, o = wt_sa r.2 124 (13 * Int32.toNatClampNeg t.1 + i1') x3 := ⟨_, rfl⟩
          rw [← ε1]
          have h1 := wt_fr_sa ε1
          have e54 : wt_gf z1 108 54 = wt_gf r.2 108 54 := h1.1 108 54 (fun h => h)
          have eK : Int32.toNatClampNeg (wt_gf r.2 108 54) = K := wt_tnN s1
          rw [e54, eK]
          refine wt_HH_gr (fun gd2 => ?_)
          have gd2' : K < 108 := by
            rcases Nat.lt_or_ge K 108 with h | h
            · exact h
            · exact absurd (Or.inr h) gd2
          obtain ⟨z2, ε2⟩ : ∃ o : wt_St, o = wt_sa z1 288 K y6.1 := ⟨_, rfl⟩
          rw [← ε2]
          have h2 := wt_fr_sa ε2
          have e542 : wt_gf z2 108 54 = wt_gf r.2 108 54 := (h2.1 108 54 (fun h => h)).trans e54
          rw [e542]
          obtain ⟨z3, ε3⟩ : ∃ o : wt_St, o = wt_sf z2 108 54 ((wt_gf r.2 108 54) + (1 : Int32)) := ⟨_, rfl⟩
          rw [← ε3]
          have h3 := wt_fr_sf ε3
          have ej := wt_i1 (c := wt_gf r.2 108 54) (by omega)
          have ej1 := wt_i1 (c := p.1) (by have := wt_bd (wt_ga r.2 287 (Int32.toNatClampNeg t.1)); omega)
          have ep1 : Int32.toNatClampNeg (p.1 + (1 : Int32)) = Int32.toNatClampNeg p.1 + 1 := by have := wt_tnI (x := p.1 + (1 : Int32)) (by omega); omega
          have A41 : ∀ j, wt_ga q12 41 j = wt_ga q11 41 j := d2.2 41 (by decide)
          have A42 : ∀ j, wt_ga q11 42 j = wt_ga p.2 42 j := d1.2 42 (by decide)
          have B124 : ∀ j, wt_ga z3 124 j = wt_ga z1 124 j := fun j => by rw [h3.2 124 (fun h => h)]; exact h2.2 124 (by decide) j
          have B288 : ∀ j, wt_ga z3 288 j = wt_ga z2 288 j := h3.2 288 (fun h => h)
          have C288 : ∀ j, wt_ga z1 288 j = wt_ga r.2 288 j := h1.2 288 (by decide)
          have v288 : wt_ga z3 288 K = y6.1 := by rw [B288]; exact wt_v_sa ε2
          have o288 : ∀ k, k < K → wt_ga z3 288 k = wt_ga r.2 288 k := fun k hk => by rw [B288, wt_w_sa ε2 k (by omega), C288]
          have v124 : wt_ga z3 124 (13 * Int32.toNatClampNeg t.1 + i1') = x3 := by rw [B124]; exact wt_v_sa ε1
          have o124 : ∀ j, j ≠ 13 * Int32.toNatClampNeg t.1 + i1' → wt_ga z3 124 j = wt_ga r.2 124 j := fun j hj => by rw [B124]; exact wt_w_sa ε1 j hj
          have v41 : wt_ga q12 41 (12 * Int32.toNatClampNeg t.1 + i1') = x3 := by rw [A41]; exact wt_v_sa δ1
          have o41 : ∀ j, j ≠ 12 * Int32.toNatClampNeg t.1 + i1' → wt_ga q12 41 j = wt_ga p.2 41 j := fun j hj => by rw [A41]; exact wt_w_sa δ1 j hj
          have v42 : wt_ga q12 42 (12 * Int32.toNatClampNeg t.1 + i1') = p.1 := wt_v_sa δ2
          have o42 : ∀ j, j ≠ 12 * Int32.toNatClampNeg t.1 + i1' → wt_ga q12 42 j = wt_ga p.2 42 j := fun j hj => by rw [wt_w_sa δ2 j hj]; exact A42 j
          have ctE : ∀ (lx : Int) (k : Nat), k ≤ K → wt_ct (fun k' => (wt_ga z3 288 k').toInt / 13) lx k = wt_ct (fun k' => (wt_ga r.2 288 k').toInt / 13) lx k := fun lx k hk => wt_ct_congr k (fun k' hk' => by show (wt_ga z3 288 k').toInt / 13 = (wt_ga r.2 288 k').toInt / 13; rw [o288 k' (by omega)])
          -- the new piece lay free, and no piece of the list is it
          have fresh : ∀ l' i' : Nat, l' < 26 → (i' : Int) < (wt_ga z0 111 l').toInt → (wt_ga r.2 124 (13 * l' + i')).toInt = (g : Int) → ¬ (l' = Int32.toNatClampNeg t.1 ∧ i' = i1') := fun l' i' _ _ ho h => by
            rw [h.1, h.2] at ho
            omega
          have inj : ∀ l' i' : Nat, l' < 26 → (i' : Int) < (wt_ga z0 111 l').toInt → 13 * l' + i' = 13 * Int32.toNatClampNeg t.1 + i1' ∨ 12 * l' + i' = 12 * Int32.toNatClampNeg t.1 + i1' → l' = Int32.toNatClampNeg t.1 ∧ i' = i1' := fun l' i' hl hi h => by
            have b := (sk l' hl).2.1.2
            rw [(sk l' hl).1] at b
            omega
          have m12 : m ≤ 12 := by omega
          refine hK2 _ _ ⟨rfl, by show 0 ≤ (p.1 + (1 : Int32)).toInt; omega, K + 1, ⟨(fs.sa δ1 (Or.inl rfl)).sa δ2 (Or.inr rfl), ((fz.sa ε1 (Or.inl rfl)).sa ε2 (Or.inr rfl)).sf ε3 ⟨rfl, rfl⟩⟩, ⟨?_, by omega⟩, fun l' i' hl hi => ?_, fun l' i' hl hi hj => ?_, fun k hk => ?_, fun l' i' hl hi ho => ?_, ?_, fun l'' hl'' => ?_⟩
          · show (wt_gf z3 108 54).toInt = _
            rw [wt_v_sf ε3]; omega
          · show wt_ga q12 41 (12 * l' + i') = wt_ga z3 124 (13 * l' + i') ∧ (wt_ga z3 124 (13 * l' + i') = wt_ga z0 124 (13 * l' + i') ∨ ((wt_ga z0 124 (13 * l' + i')).toInt = -1 ∧ (wt_ga z3 124 (13 * l' + i')).toInt = (g : Int))) ∧ ((wt_ga z3 124 (13 * l' + i')).toInt ≠ (g : Int) → wt_ga q12 42 (12 * l' + i') = wt_ga s0 42 (12 * l' + i'))
            obtain ⟨c1, c2, c3⟩ := s3 l' i' hl hi
            by_cases hq : l' = Int32.toNatClampNeg t.1 ∧ i' = i1'
            · rw [hq.1, hq.2, v41, v124]
              rw [hq.1, hq.2] at c2
              refine ⟨rfl, Or.inr ⟨?_, hg⟩, fun h => absurd hg h⟩
              rcases c2 with c2 | c2
              · rw [← c2]; exact b4
              · exact c2.1
            · have n1 : 12 * l' + i' ≠ 12 * Int32.toNatClampNeg t.1 + i1' := fun h => hq (inj l' i' hl hi (Or.inr h))
              have n2 : 13 * l' + i' ≠ 13 * Int32.toNatClampNeg t.1 + i1' := fun h => hq (inj l' i' hl hi (Or.inl h))
              rw [o41 _ n1, o124 _ n2, o42 _ n1]
              exact ⟨c1, c2, c3⟩
          · show wt_ga q12 41 (12 * l' + i') = wt_ga s0 41 (12 * l' + i')
            rw [o41 _ (fun h => by
              by_cases hq : l' = Int32.toNatClampNeg t.1
              · rw [hq] at hj h
                omega
              · omega)]
            exact s4 l' i' hl hi hj
          · by_cases hq : k = K
            · refine ⟨Int32.toNatClampNeg t.1, i1', by omega, by omega, by rw [hq]; show (wt_ga z3 288 K).toInt = _; rw [v288]; exact b3, by show (wt_ga z3 124 _).toInt = _; rw [v124]; exact hg, ?_⟩
              show (wt_ga q12 42 _).toInt = wt_ct (fun k' => (wt_ga z3 288 k').toInt / 13) _ k
              rw [v42, hq, ctE _ _ (Nat.le_refl _), s7]
              omega
            · obtain ⟨l', i', u1, u2, u3, u4, u5⟩ := s5 k (by omega)
              have hne : ¬ (l' = Int32.toNatClampNeg t.1 ∧ i' = i1') := fresh l' i' u1 u2 u4
              have n1 : 12 * l' + i' ≠ 12 * Int32.toNatClampNeg t.1 + i1' := fun h => hne (inj l' i' u1 u2 (Or.inr h))
              have n2 : 13 * l' + i' ≠ 13 * Int32.toNatClampNeg t.1 + i1' := fun h => hne (inj l' i' u1 u2 (Or.inl h))
              refine ⟨l', i', u1, u2, ?_, ?_, ?_⟩
              · show (wt_ga z3 288 k).toInt = _
                rw [o288 k (by omega)]; exact u3
              · show (wt_ga z3 124 (13 * l' + i')).toInt = _
                rw [o124 _ n2]; exact u4
              · show (wt_ga q12 42 (12 * l' + i')).toInt = wt_ct (fun k' => (wt_ga z3 288 k').toInt / 13) _ k
                rw [o42 _ n1, ctE _ _ (by omega)]; exact u5
          · have ho' : (wt_ga z3 124 (13 * l' + i')).toInt = (g : Int) := ho
            by_cases hq : l' = Int32.toNatClampNeg t.1 ∧ i' = i1'
            · refine ⟨K, by omega, ?_⟩
              show (wt_ga z3 288 K).toInt = _
              rw [v288, hq.1, hq.2]; exact b3
            · have n2 : 13 * l' + i' ≠ 13 * Int32.toNatClampNeg t.1 + i1' := fun h => hq (inj l' i' hl hi (Or.inl h))
              rw [o124 _ n2] at ho'
              obtain ⟨k, w1, w2⟩ := s6 l' i' hl hi ho'
              refine ⟨k, by omega, ?_⟩
              show (wt_ga z3 288 k).toInt = _
              rw [o288 k w1]; exact w2
          · show wt_ct (fun k' => (wt_ga z3 288 k').toInt / 13) _ (K + 1) = ((Int32.toNatClampNeg (p.1 + (1 : Int32)) : Nat) : Int)
            rw [wt_ct_s, ctE _ _ (Nat.le_refl _), s7, v288, b3, if_pos (by omega), ep1]
            omega
          · show wt_ct (fun k' => (wt_ga z3 288 k').toInt / 13) _ (K + 1) = 0
            rw [wt_ct_s, ctE _ _ (Nat.le_refl _), s8 l'' hl'', v288, b3, if_neg (by omega)]
            rfl
end WTQ10
-- 95d.set.lean.txt
section WTQ11
theorem wh_stands (n : Nat) (hn : 4294967297 < n) {x : Int32} {s : wt_St} : wt_H (wp_pg_stands n x s) (fun q => q.2 = s ∧ ((q.1 = 1 ∧ (0 ≤ x.toInt ∧ x.toInt < 4) ∧ (wt_ga s 43 (Int32.toNatClampNeg x)).toInt ≠ -1) ∨ (q.1 = 0 ∧ ¬ ((0 ≤ x.toInt ∧ x.toInt < 4) ∧ (wt_ga s 43 (Int32.toNatClampNeg x)).toInt ≠ -1)))) := by
  have k0 : (0 : Int32).toInt = 0 := by decide
  have k4 : (4 : Int32).toInt = 4 := by decide
  unfold wp_pg_stands
  refine wt_H_if (fun c => ?_) (fun c => wt_H_if (fun d => ?_) (fun d => ?_))
  · have := wt_clt c
    exact wt_H_some ⟨rfl, Or.inr ⟨rfl, by omega⟩⟩
  · have := wt_cle d
    exact wt_H_some ⟨rfl, Or.inr ⟨rfl, by omega⟩⟩
  · have c' := wt_ncl c
    have d' := wt_ncle d
    have et := wt_tnI (x := x) (by omega)
    refine wt_H_bh (wh_look n hn (k := Int32.toNatClampNeg x) (by omega) (by rw [show wt_ln 43 = 4 from by decide]; omega)) (fun q hq => ?_)
    subst hq
    dsimp only
    refine wt_H_if (fun e => ?_) (fun e => ?_)
    · have e' := (wt_ceq e).trans wt_lm1
      exact wt_H_some ⟨rfl, Or.inr ⟨rfl, fun h => h.2 e'⟩⟩
    · have e' := wt_nceq e
      rw [wt_lm1] at e'
      exact wt_H_some ⟨rfl, Or.inl ⟨rfl, by omega, e'⟩⟩
theorem wh_firstFree (n : Nat) (hn : 4294967297 < n) {s : wt_St} : wt_H (wp_pg_firstFree n s) (fun q => q.2 = s ∧ wt_fst 4 (fun g => (wt_ga s 43 g).toInt = -1) q.1) := by
  have k0 : (0 : Int32).toInt = 0 := by decide
  have k4 : (4 : Int32).toInt = 4 := by decide
  unfold wp_pg_firstFree
  refine wt_H_it (fun t : Int32 × wt_St => t.2 = s ∧ 0 ≤ t.1.toInt ∧ ∀ g : Nat, (g : Int) < t.1.toInt → ¬ (wt_ga s 43 g).toInt = -1) (fun K t I hK => ?_) n _ ⟨rfl, by show 0 ≤ ((0 : Int32)).toInt; omega, fun k hk => absurd (show (k : Int) < ((0 : Int32)).toInt from hk) (by omega)⟩
  obtain ⟨i0, i1, i2⟩ := I
  have et := wt_tnI i1
  unfold wp_pg_firstFree_B2
  rw [i0]
  refine wt_H_if (fun c => ?_) (fun c => ?_)
  · have c' := wt_cle c
    exact wt_H_some ⟨rfl, Or.inr ⟨rfl, fun v hv => i2 v (by omega)⟩⟩
  · have c' := wt_ncle c
    have ei := wt_i1 (c := t.1) (by omega)
    refine wt_H_bh (wh_stands n hn) (fun q hq => ?_)
    obtain ⟨e, hq⟩ := hq
    rw [e]
    rcases hq with ⟨z, -, h⟩ | ⟨z, h⟩
    · rw [if_neg (by rw [z]; decide)]
      refine hK _ ⟨rfl, by show 0 ≤ (t.1 + (1 : Int32)).toInt; omega, fun g hg => ?_⟩
      have hg' : (g : Int) < (t.1 + (1 : Int32)).toInt := hg
      by_cases hc : g = Int32.toNatClampNeg t.1
      · rw [hc]; exact h
      · exact i2 g (by omega)
    · rw [if_pos z]
      refine wt_H_some ⟨rfl, Or.inl ⟨Int32.toNatClampNeg t.1, by omega, by (try dsimp only); omega, ?_, fun v hv => i2 v (by omega)⟩⟩
      by_cases hc : (wt_ga s 43 (Int32.toNatClampNeg t.1)).toInt = -1
      · exact hc
      · exact absurd ⟨⟨i1, by omega⟩, hc⟩ h
/-- the reference puts the taken pieces down on the page -/
theorem wh_setTail (n : Nat) {g K : Nat} {x x3 : Int32} {z : wt_St} (hg : x3.toInt = (g : Int)) (hg4 : g < 4) (hK : (wt_gf z 108 54).toInt = (K : Int)) (hK8 : K ≤ 108) : wt_H (wt_it (wp_md_set_B122 n x3) n ((0 : Int32), (wt_sa (wt_sa z 275 g x) 276 g (wt_gf (wt_sa z 275 g x) 108 54)))) (fun y => y.1 = x3 ∧ wt_fr (fun _ _ => False) (fun i => i = 275 ∨ i = 276 ∨ i = 278 + g) z y.2 ∧ wt_ga y.2 275 g = x ∧ (∀ j, j ≠ g → wt_ga y.2 275 j = wt_ga z 275 j) ∧ (wt_ga y.2 276 g).toInt = (K : Int) ∧ (∀ j, j ≠ g → wt_ga y.2 276 j = wt_ga z 276 j) ∧ ∀ k, k < K → wt_ga y.2 (278 + g) k = wt_ga z 288 k) := by
  have k0 : (0 : Int32).toInt = 0 := by decide
  have eg : Int32.toNatClampNeg x3 = g := wt_tnN hg
  obtain ⟨s1, ε1⟩ : ∃ o : wt_St, o = wt_sa z 275 g x := ⟨_, rfl⟩
  rw [← ε1]
  have f1 := wt_fr_sa ε1
  have e54 : wt_gf s1 108 54 = wt_gf z 108 54 := f1.1 108 54 (fun h => h)
  rw [e54]
  obtain ⟨s2, ε2⟩ : ∃ o : wt_St, o = wt_sa s1 276 g (wt_gf z 108 54) := ⟨_, rfl⟩
  rw [← ε2]
  have f2 := wt_fr_sa ε2
  have F2 : wt_fr (fun _ _ => False) (fun i => i = 275 ∨ i = 276) z s2 := (wt_fr.rf.sa ε1 (by first | decide | ((try dsimp only); omega))).sa ε2 (by first | decide | ((try dsimp only); omega))
  refine wt_H_it (fun t : Int32 × wt_St => 0 ≤ t.1.toInt ∧ wt_fr (fun _ _ => False) (fun i => i = 278 + g) s2 t.2 ∧ ∀ k : Nat, (k : Int) < t.1.toInt → wt_ga t.2 (278 + g) k = wt_ga z 288 k) (fun KK t I hKK => ?_) n _ ⟨by show 0 ≤ ((0 : Int32)).toInt; omega, wt_fr.rf, fun k hk => absurd (show (k : Int) < ((0 : Int32)).toInt from hk) (by omega)⟩
  obtain ⟨i0, f, i1⟩ := I
  have et := wt_tnI i0
  unfold wp_md_set_B122
  rw [f.1 108 54 (fun h => h), F2.1 108 54 (fun h => h), eg]
  refine wt_H_if (fun c => ?_) (fun c => ?_)
  · have c' := wt_cle c
    refine wt_H_some ⟨rfl, wt_fr.tr (wt_frw F2 (fun i k h => h) (fun i h => by (try dsimp only at h ⊢); omega)) f (fun i k h => h) (fun i h => Or.inr (Or.inr h)), ?_, fun j hj => ?_, ?_, fun j hj => ?_, fun k hk => i1 k (by omega)⟩
    · rw [f.2 275 (by (try dsimp only); omega), f2.2 275 (by decide)]; exact wt_v_sa ε1
    · rw [f.2 275 (by (try dsimp only); omega), f2.2 275 (by decide)]; exact wt_w_sa ε1 j hj
    · rw [f.2 276 (by (try dsimp only); omega), wt_v_sa ε2]; exact hK
    · rw [f.2 276 (by (try dsimp only); omega), wt_w_sa ε2 j hj]; exact f1.2 276 (by decide) j
  · have c' := wt_ncle c
    have ei := wt_i1 (c := t.1) (by omega)
    refine wt_H_gd (fun _ => ?_)
    refine wt_H_gd (fun _ => ?_)
    refine wt_H_gd (fun _ => ?_)
    obtain ⟨s3, ε3⟩ : ∃ o : wt_St, o = wt_sa t.2 (278 + g) (Int32.toNatClampNeg t.1) (wt_ga t.2 288 (Int32.toNatClampNeg t.1)) := ⟨_, rfl⟩
    rw [← ε3]
    refine hKK _ ⟨by show 0 ≤ (t.1 + (1 : Int32)).toInt; omega, f.sa ε3 rfl, fun k hk => ?_⟩
    have hk' : (k : Int) < (t.1 + (1 : Int32)).toInt := hk
    show wt_ga s3 (278 + g) k = _
    by_cases hc : k = Int32.toNatClampNeg t.1
    · rw [hc, wt_v_sa ε3, f.2 288 (by (try dsimp only); omega)]; exact F2.2 288 (by decide) _
    · rw [wt_w_sa ε3 k hc]; exact i1 k (by omega)
set_option maxHeartbeats 4000000 in
/-- pieces on the new page and all that stood -/
theorem wu_SC_set {g K : Nat} {x1 : Int32} {s0 z0 s1 z1 s z q y : wt_St} (hg4 : g < 4) (hx : 0 ≤ x1.toInt) (v : wt_IV z0) (sc : wu_SC s0 z0) (free : (wt_ga z0 275 g).toInt = -1) (f1 : wt_fr (fun _ _ => False) (fun i => i = 78) s0 s1) (h1 : wt_fr (fun i k => i = 108 ∧ (k = 0 ∨ k = 54)) (fun i => i = 287) z0 z1) (st : wu_ST g s1 z1 s z 26 0 K) (eq : q = wt_sa s 43 g x1) (fy : wt_fr (fun _ _ => False) (fun i => i = 275 ∨ i = 276 ∨ i = 278 + g) z y) (y1 : wt_ga y 275 g = x1) (y2 : ∀ j, j ≠ g → wt_ga y 275 j = wt_ga z 275 j) (y3 : (wt_ga y 276 g).toInt = (K : Int)) (y4 : ∀ j, j ≠ g → wt_ga y 276 j = wt_ga z 276 j) (y5 : ∀ k, k < K → wt_ga y (278 + g) k = wt_ga z 288 k) : wu_SC q y := by
  obtain ⟨⟨fs, fz⟩, ⟨s1', s2'⟩, s3, s4, s5, s6, s7, s8⟩ := st
  have fq := wt_fr_sa eq
  have FQ : wt_fr (fun _ _ => False) (fun i => i = 78 ∨ i = 41 ∨ i = 42 ∨ i = 43) s0 q := wt_fr.sa (wt_fr.tr (wt_frw f1 (fun i k h => h) (fun i h => Or.inl h)) fs (fun i k h => h) (fun i h => by (try dsimp only at h ⊢); omega)) eq (Or.inr (Or.inr (Or.inr rfl)))
  have FZ : wt_fr (fun i k => i = 108 ∧ (k = 0 ∨ k = 54)) (fun i => i = 287 ∨ i = 124 ∨ i = 288) z0 z := wt_fr.tr (wt_frw h1 (fun i k h => h) (fun i h => Or.inl h)) fz (fun i k h => by (try dsimp only at h ⊢); omega) (fun i h => by (try dsimp only at h ⊢); omega)
  have FY : wt_fr (fun i k => i = 108 ∧ (k = 0 ∨ k = 54)) (fun i => i = 287 ∨ i = 124 ∨ i = 288 ∨ i = 275 ∨ i = 276 ∨ i = 278 + g) z0 y := wt_fr.tr (wt_frw FZ (fun i k h => h) (fun i h => by (try dsimp only at h ⊢); omega)) fy (fun i k h => h.elim) (fun i h => by (try dsimp only at h ⊢); omega)
  have em : wt_ga y 111 = wt_ga z0 111 := funext (FY.2 111 (by (try dsimp only); omega))
  have m1 : ∀ l, wt_ga z1 111 l = wt_ga z0 111 l := h1.2 111 (by decide)
  have q41 : ∀ j, wt_ga q 41 j = wt_ga s 41 j := fq.2 41 (by decide)
  have q42 : ∀ j, wt_ga q 42 j = wt_ga s 42 j := fq.2 42 (by decide)
  have yon : ∀ j, wt_ga y 124 j = wt_ga z 124 j := fy.2 124 (by (try dsimp only); omega)
  have zon : ∀ j, wt_ga z1 124 j = wt_ga z0 124 j := h1.2 124 (by decide)
  have Z275 : ∀ j, wt_ga z 275 j = wt_ga z0 275 j := FZ.2 275 (by decide)
  have Z276 : ∀ j, wt_ga z 276 j = wt_ga z0 276 j := FZ.2 276 (by decide)
  refine ⟨?_, ?_, fun l hl => ?_, fun g' hg' => ?_⟩
  · rw [FQ.1 39 9 (fun h => h), FY.1 108 26 (by decide)]; exact wu_SC_SH sc
  · exact wu_SW_eq (wu_SC_SW sc) (by rw [FY.1 108 39 (by decide)]; exact Int.le_refl _) (fun i p q => FQ.2 i (by (try dsimp only); omega)) (FQ.1 39 8 (fun h => h)) (fun i p q => FY.2 i (by (try dsimp only); omega)) (FY.1 108 40 (by decide))
  · rw [em]
    obtain ⟨p1, p2⟩ := sc.2.2.1 l hl
    refine ⟨fun i hi => ?_, fun i hi hj => ?_⟩
    · obtain ⟨a1, a2, a3⟩ := p1 i hi
      have a1' : wt_ga s0 40 (12 * l + i) = wt_ga z0 121 (13 * l + i) := a1
      obtain ⟨c1, c2, c3⟩ := s3 l i hl (by rw [m1]; exact hi)
      refine ⟨?_, ?_, ?_⟩
      · show wt_ga q 40 (12 * l + i) = wt_ga y 121 (13 * l + i)
        rw [FQ.2 40 (by decide), FY.2 121 (by (try dsimp only); omega)]; exact a1'
      · show wt_ga q 41 (12 * l + i) = wt_ga y 124 (13 * l + i)
        rw [q41, yon]; exact c1
      · rw [yon]
        rcases c2 with c2 | ⟨c2, c2'⟩
        · rw [c2, zon]
          rcases a3 with a3 | ⟨g', b1, b2, b3⟩
          · exact Or.inl a3
          · refine Or.inr ⟨g', b1, b2, ?_⟩
            by_cases hq : g' = g
            · rw [hq, y1]; omega
            · rw [y2 g' hq, Z275]; exact b3
        · exact Or.inr ⟨g, hg4, c2', by rw [y1]; omega⟩
    · show (wt_ga q 41 (12 * l + i)).toInt = -1
      rw [q41, s4 l i hl hi (by rw [m1]; exact hj), f1.2 41 (by decide)]
      exact p2 i hi hj
  · rw [em]
    show wt_ga q 43 g' = wt_ga y 275 g' ∧ ((wt_ga y 275 g').toInt ≠ -1 → (∀ k : Nat, (k : Int) < (wt_ga y 276 g').toInt → ∃ l i : Nat, l < 26 ∧ (i : Int) < (wt_ga z0 111 l).toInt ∧ (wt_ga y (278 + g') k).toInt = ((13 * l + i : Nat) : Int) ∧ (wt_ga y 124 (13 * l + i)).toInt = (g' : Int) ∧ (wt_ga q 42 (12 * l + i)).toInt = wt_ct (fun k' => (wt_ga y (278 + g') k').toInt / 13) (l : Int) k) ∧ ∀ l i : Nat, l < 26 → (i : Int) < (wt_ga z0 111 l).toInt → (wt_ga y 124 (13 * l + i)).toInt = (g' : Int) → ∃ k : Nat, (k : Int) < (wt_ga y 276 g').toInt ∧ (wt_ga y (278 + g') k).toInt = ((13 * l + i : Nat) : Int))
    by_cases hq : g' = g
    · subst hq
      rw [y1, y3]
      refine ⟨wt_v_sa eq, fun _ => ⟨fun k hk => ?_, fun l i hl hi ho => ?_⟩⟩
      · obtain ⟨l, i, u1, u2, u3, u4, u5⟩ := s5 k (by omega)
        refine ⟨l, i, u1, by rw [← m1]; exact u2, by rw [y5 k (by omega)]; exact u3, by rw [yon]; exact u4, ?_⟩
        rw [q42, u5]
        exact (wt_ct_congr k (fun k' hk' => by show (wt_ga z 288 k').toInt / 13 = (wt_ga y (278 + g') k').toInt / 13; rw [y5 k' (by omega)]))
      · rw [yon] at ho
        obtain ⟨k, w1, w2⟩ := s6 l i hl (by rw [m1]; exact hi) ho
        exact ⟨k, by omega, by rw [y5 k w1]; exact w2⟩
    · obtain ⟨p1, p2⟩ := sc.2.2.2 g' hg'
      have p1' : wt_ga s0 43 g' = wt_ga z0 275 g' := p1
      rw [y2 g' hq, y4 g' hq, Z275, Z276]
      have Y278 : ∀ k, wt_ga y (278 + g') k = wt_ga z0 (278 + g') k := FY.2 (278 + g') (by (try dsimp only); omega)
      refine ⟨?_, fun hne => ⟨fun k hk => ?_, fun l i hl hi ho => ?_⟩⟩
      · rw [wt_w_sa eq g' hq, fs.2 43 (by decide), f1.2 43 (by decide)]; exact p1'
      · obtain ⟨l, i, u1, u2, u3, u4, u5⟩ := (p2 hne).1 k hk
        obtain ⟨c1, c2, c3⟩ := s3 l i u1 (by rw [m1]; exact u2)
        have on : wt_ga z 124 (13 * l + i) = wt_ga z0 124 (13 * l + i) := by
          rcases c2 with c2 | ⟨c2, -⟩
          · rw [c2, zon]
          · rw [zon] at c2; omega
        refine ⟨l, i, u1, u2, by rw [Y278]; exact u3, by rw [yon, on]; exact u4, ?_⟩
        rw [q42, c3 (by rw [on]; omega), f1.2 42 (by decide)]
        have u5' : (wt_ga s0 42 (12 * l + i)).toInt = wt_ct (fun k' => (wt_ga z0 (278 + g') k').toInt / 13) (l : Int) k := u5
        rw [u5']
        exact (wt_ct_congr k (fun k' hk' => by show (wt_ga z0 (278 + g') k').toInt / 13 = (wt_ga y (278 + g') k').toInt / 13; rw [Y278]))
      · rw [yon] at ho
        obtain ⟨c1, c2, c3⟩ := s3 l i hl (by rw [m1]; exact hi)
        have on : (wt_ga z0 124 (13 * l + i)).toInt = (g' : Int) := by
          rcases c2 with c2 | ⟨-, c2⟩
          · rw [← zon, ← c2]; exact ho
          · omega
        obtain ⟨k, w1, w2⟩ := (p2 hne).2 l i hl hi on
        exact ⟨k, w1, by rw [Y278]; exact w2⟩
end WTQ11
