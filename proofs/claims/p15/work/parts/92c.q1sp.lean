theorem wt_frh {F : Nat → Nat → Prop} {A : Nat → Prop} {σ q : wt_St} (h : wt_fr F A σ q) : wt_fr F A σ q := h
set_option maxHeartbeats 8000000 in
theorem wa1_kase (n : Nat) (hn : 4294967297 < n) {σ : wt_St} (x1 : Int32) (v : wt_IV σ) (ti : (wt_gf σ 1 2).toInt = (wt_gf σ 108 1).toInt) (jt : wt_JT σ) (j : wu_Q1 σ) : wt_H (wp_ap_kase n x1 σ) (fun q => wt_H (wp_md_kase n x1 q.2.2) (fun r => ((q.1 = 1 ∧ wt_gf r.2 108 0 = 1) ∨ (q.1 = 0 ∧ wt_gf r.2 108 0 = 0 ∧ q.2.1 = r.1)) ∧ wu_Q1 r.2)) := by
  intro q hq r hr
  obtain ⟨q', hq', hfq⟩ := wq_ap_kase n hn x1 σ
  rw [hq] at hq'
  cases hq'
  have fq := hfq.1
  have v2 : wt_IV q.2.2 := wt_IV_cls v fq (fun k => by (try dsimp only); omega) (fun i hi => by (try dsimp only); omega)
  have tb : wt_TB σ q.2.2 := ⟨fun i hi => by rw [fq.2 109 (by (try dsimp only); omega)]; exact jt i hi, wt_eqI (by rw [fq.1 108 1 (by (try dsimp only); omega)]; exact ti)⟩
  obtain ⟨r', hr', hfr⟩ := wq_md_kase n hn x1 q.2.2 v2.1 v2.2.1
  rw [hr] at hr'
  cases hr'
  have fr := hfr.1
  obtain ⟨a, b, c, d⟩ := j
  obtain ⟨to2, tx2⟩ := wu_TT_fr v.1 v2.1 a b fq fr (fun i k h => by (try dsimp only); omega) (fun i h => by unfold wu_qA at h; (try dsimp only); omega) (fun k => by (try dsimp only); omega) (fun i h => by (try dsimp only); omega) (fun i k h => by (try dsimp only); omega) (fun i h => by (try dsimp only); omega) (fun k h => by (try dsimp only); omega) (fun i h => by unfold wu_qB at h; (try dsimp only); omega)
  have p7 : wt_gf r.2 1 7 = wt_gf q.2.2 1 7 := fr.1 1 7 (by (try dsimp only); omega)
  have p14 : wt_gf r.2 0 14 = wt_gf q.2.2 0 14 := fr.1 0 14 (by (try dsimp only); omega)
  have m41 : wt_gf q.2.2 108 41 = wt_gf σ 108 41 := fq.1 108 41 (by (try dsimp only); omega)
  have m3 : wt_gf q.2.2 108 3 = wt_gf σ 108 3 := fq.1 108 3 (by (try dsimp only); omega)
  rcases wr_kase n hn tb v2.1 q r hq hr with ⟨e1, e2, e3, e4⟩ | ⟨e1, e2, e3, e4, e5⟩
  · refine ⟨Or.inl ⟨e1, e2⟩, to2, tx2, ?_, ?_⟩
    · rw [p7, e3, e4.1 108 3 (by (try dsimp only); omega), m3]; exact c
    · rw [p14, e3, e4.1 108 41 (by (try dsimp only); omega), m41]; exact d
  · refine ⟨Or.inr ⟨e1, e2, e3⟩, to2, tx2, by rw [p7]; exact e4, ?_⟩
    rcases e5 with ⟨-, f1, f2⟩ | kc
    · rw [p14, f1.1 0 14 (by (try dsimp only); omega), f2.1 108 41 (by (try dsimp only); omega), m41]; exact d
    · obtain ⟨-, -, -, -, -, -, -, -, -, -, k1, k2⟩ := kc
      rw [p14, k1, k2]
set_option maxHeartbeats 8000000 in
theorem wa1_tongue (n : Nat) (hn : 4294967297 < n) {σ : wt_St} (x1 : Int32) (v : wt_IV σ) (ti : (wt_gf σ 1 2).toInt = (wt_gf σ 108 1).toInt) (jt : wt_JT σ) (j : wu_Q1 σ) : wt_H (wp_ap_tongue n x1 σ) (fun q => wt_H (wp_md_tongue n x1 q.2.2) (fun r => ((q.1 = 1 ∧ wt_gf r.2 108 0 = 1) ∨ (q.1 = 0 ∧ wt_gf r.2 108 0 = 0 ∧ q.2.1 = r.1)) ∧ wu_Q1 r.2)) := by
  intro q hq r hr
  obtain ⟨q', hq', hfq⟩ := wq_ap_tongue n hn x1 σ
  rw [hq] at hq'
  cases hq'
  have fq := hfq.1
  have v2 : wt_IV q.2.2 := wt_IV_cls v fq (fun k => by (try dsimp only); omega) (fun i hi => by (try dsimp only); omega)
  have tb : wt_TB σ q.2.2 := ⟨fun i hi => by rw [fq.2 109 (by (try dsimp only); omega)]; exact jt i hi, wt_eqI (by rw [fq.1 108 1 (by (try dsimp only); omega)]; exact ti)⟩
  obtain ⟨r', hr', hfr⟩ := wq_md_tongue n hn x1 q.2.2 v2.1
  rw [hr] at hr'
  cases hr'
  have fr := hfr.1
  have rr := hfr.2.1
  obtain ⟨a, b, c, d⟩ := j
  have p7 : wt_gf r.2 1 7 = wt_gf q.2.2 1 7 := fr.1 1 7 (by (try dsimp only); omega)
  have p14 : wt_gf r.2 0 14 = wt_gf q.2.2 0 14 := fr.1 0 14 (by (try dsimp only); omega)
  have m41 : wt_gf q.2.2 108 41 = wt_gf σ 108 41 := fq.1 108 41 (by (try dsimp only); omega)
  have m3 : wt_gf q.2.2 108 3 = wt_gf σ 108 3 := fq.1 108 3 (by (try dsimp only); omega)
  rcases wr_tongue n hn tb v2.1 q r hq hr with ⟨e1, e2, e3, e4⟩ | ⟨e1, e2, e3, e4, e5⟩
  · have fq0 : wt_fr (fun _ _ => False) (fun _ => False) σ q.2.2 := by rw [e3]; exact wt_fr.rf
    obtain ⟨to2, tx2⟩ := wu_TT_fr v.1 v2.1 a b fq0 e4 (fun i k _ h => h) (fun i _ h => h) (fun k h => h) (fun i _ h => h) (fun i k h => by (try dsimp only); omega) (fun i _ h => h) (fun k h => by (try dsimp only); omega) (fun i _ h => h)
    refine ⟨Or.inl ⟨e1, e2⟩, to2, tx2, ?_, ?_⟩
    · rw [p7, e3, e4.1 108 3 (by (try dsimp only); omega), m3]; exact c
    · rw [p14, e3, e4.1 108 41 (by (try dsimp only); omega), m41]; exact d
  · rcases e5 with ⟨-, f1, f2⟩ | te
    · obtain ⟨to2, tx2⟩ := wu_TT_fr v.1 v2.1 a b f1 f2 (fun i k h => by (try dsimp only); omega) (fun i h => by unfold wu_qA at h; (try dsimp only); omega) (fun k => by (try dsimp only); omega) (fun i h => by (try dsimp only); omega) (fun i k h => by (try dsimp only); omega) (fun i h => by unfold wt_gA; omega) (fun k h => by (try dsimp only); omega) (fun i h => by unfold wu_qB at h; unfold wt_gA; omega)
      refine ⟨Or.inr ⟨e1, e2, e3⟩, to2, tx2, by rw [p7]; exact e4, ?_⟩
      rw [p14, f1.1 0 14 (by (try dsimp only); omega), f2.1 108 41 (by (try dsimp only); omega), m41]; exact d
    · obtain ⟨to, ⟨z34, -, z14⟩, -, -, ⟨z39, -, z41⟩, -⟩ := te
      have k0 : (0 : Int32).toInt = 0 := by decide
      have txr : wu_TX q.2.2 r.2 := ⟨z34.trans z39.symm, fun t ht => by rw [z39] at ht; omega⟩
      refine ⟨Or.inr ⟨e1, e2, e3⟩, wu_endTO to fr (fun i k h => by (try dsimp only); omega) (fun i h => by (try dsimp only); omega), wu_endTX rr txr fr (fun i k h => by (try dsimp only); omega) (fun i h => by (try dsimp only); omega), by rw [p7]; exact e4, ?_⟩
      rw [p14, z14, z41]
set_option maxHeartbeats 8000000 in
theorem wa1_text (n : Nat) (hn : 4294967297 < n) {σ : wt_St} (x1 : Int32) (v : wt_IV σ) (ti : (wt_gf σ 1 2).toInt = (wt_gf σ 108 1).toInt) (jt : wt_JT σ) (j : wu_Q1 σ) : wt_H (wp_ap_text n x1 σ) (fun q => wt_H (wp_md_text n x1 q.2.2) (fun r => ((q.1 = 1 ∧ wt_gf r.2 108 0 = 1) ∨ (q.1 = 0 ∧ wt_gf r.2 108 0 = 0 ∧ q.2.1 = r.1)) ∧ wu_Q1 r.2)) := by
  intro q hq r hr
  obtain ⟨q', hq', hfq⟩ := wq_ap_text n hn x1 σ
  rw [hq] at hq'
  cases hq'
  have fq := hfq.1
  have v2 : wt_IV q.2.2 := wt_IV_cls v fq (fun k => by (try dsimp only); omega) (fun i hi => by (try dsimp only); omega)
  have tb : wt_TB σ q.2.2 := ⟨fun i hi => by rw [fq.2 109 (by (try dsimp only); omega)]; exact jt i hi, wt_eqI (by rw [fq.1 108 1 (by (try dsimp only); omega)]; exact ti)⟩
  obtain ⟨r', hr', hfr⟩ := wq_md_text n hn x1 q.2.2 v2.1
  rw [hr] at hr'
  cases hr'
  have fr := hfr.1
  have rr := hfr.2.1
  obtain ⟨a, b, c, d⟩ := j
  obtain ⟨tom, txm⟩ := wu_mid a b v.1 fq (fun k => by (try dsimp only); omega) (fun i h => by (try dsimp only); omega)
  have p7 : wt_gf r.2 1 7 = wt_gf q.2.2 1 7 := fr.1 1 7 (by (try dsimp only); omega)
  have p14 : wt_gf r.2 0 14 = wt_gf σ 0 14 := (fr.1 0 14 (by (try dsimp only); omega)).trans (fq.1 0 14 (by (try dsimp only); omega))
  have m41 : wt_gf r.2 108 41 = wt_gf σ 108 41 := (fr.1 108 41 (by (try dsimp only); omega)).trans (fq.1 108 41 (by (try dsimp only); omega))
  have m3 : wt_gf q.2.2 108 3 = wt_gf σ 108 3 := fq.1 108 3 (by (try dsimp only); omega)
  have to2 : wt_TO r.2 r.2 := by
    refine wu_endTO (wt_TO_fr a fq (wt_fr.tr (F := fun i k => i < 108 ∨ (i = 108 ∧ (k < 8 ∨ k = 39))) (A := fun i => i < 108 ∨ i = 274 ∨ i = 253 ∨ (255 ≤ i ∧ i < 263)) (wt_frw fq (fun i k h => by (try dsimp only at h); omega) (fun i h => by (try dsimp only at h); omega)) fr (fun i k h => by (try dsimp only at h); omega) (fun i h => by (try dsimp only at h); omega)) ⟨by (try dsimp only); omega, by (try dsimp only); omega⟩ (fun i p q => by (try dsimp only); omega) ⟨by (try dsimp only); omega, by (try dsimp only); omega⟩ (fun i hi => by (try dsimp only); omega)) fr (fun i k h => by (try dsimp only); omega) (fun i h => by (try dsimp only); omega)
  rcases wr_text n hn tb v2.1 tom txm q r hq hr with ⟨e1, e2, e3, e4⟩ | ⟨e1, e2, e3, e4, txr⟩
  · have fq0 : wt_fr (fun _ _ => False) (fun _ => False) σ q.2.2 := by rw [e3]; exact wt_fr.rf
    obtain ⟨-, tx2⟩ := wu_TT_fr v.1 v2.1 a b fq0 e4 (fun i k _ h => h) (fun i _ h => h) (fun k h => h) (fun i _ h => h) (fun i k h => by (try dsimp only); omega) (fun i _ h => h) (fun k h => by (try dsimp only); omega) (fun i _ h => h)
    refine ⟨Or.inl ⟨e1, e2⟩, to2, tx2, ?_, ?_⟩
    · rw [p7, e3, e4.1 108 3 (by (try dsimp only); omega), m3]; exact c
    · rw [p14, m41]; exact d
  · refine ⟨Or.inr ⟨e1, e2, e3⟩, to2, wu_endTX rr txr fr (fun i k h => by (try dsimp only); omega) (fun i h => by (try dsimp only); omega), by rw [p7]; exact e4, ?_⟩
    rw [p14, m41]; exact d
