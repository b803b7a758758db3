/-! the same bytes lie on both tapes, through all calls -/
def wt_JT (σ : wt_St) : Prop := ∀ j, j < 500 → wt_ga σ 2 j = wt_ga σ 109 j
theorem wt_JT_fr {σ σ1 σ2 : wt_St} {F F' : Nat → Nat → Prop} {A A' : Nat → Prop} (h : wt_JT σ) (f : wt_fr F A σ σ1) (g : wt_fr F' A' σ1 σ2) (h1 : ¬ A 2) (h2 : ¬ A 109) (h3 : ¬ A' 2) (h4 : ¬ A' 109) : wt_JT σ2 := fun j hj => by
  rw [g.2 2 h3, g.2 109 h4, f.2 2 h1, f.2 109 h2]
  exact h j hj
def wt_iF (i k : Nat) : Prop := i = 108 ∧ (k = 0 ∨ k = 41 ∨ k = 42 ∨ k = 26 ∨ k = 40)
def wt_iA (i : Nat) : Prop := i = 121 ∨ i = 124 ∨ i = 275 ∨ i = 276 ∨ (278 ≤ i ∧ i < 282) ∨ (264 ≤ i ∧ i < 274) ∨ (283 ≤ i ∧ i < 286)
set_option maxHeartbeats 4000000 in
theorem wf_md_image (n : Nat) (hn : 4294967297 < n) {σ : wt_St} (v : wt_IV σ) : wt_H (wp_md_image n σ) (fun q => wt_fr wt_iF wt_iA σ q.2) := by
  have k0 : (0 : Int32).toInt = 0 := by decide
  unfold wp_md_image
  obtain ⟨s0, ε0⟩ : ∃ o : wt_St, o = wt_sf σ 108 0 (0 : Int32) := ⟨_, rfl⟩
  rw [← ε0]
  have f0 : wt_fr wt_iF wt_iA σ s0 := wt_frw (wt_fr_sf ε0) (fun i k h => by unfold wt_iF; (try dsimp only at h); omega) (fun i h => h.elim)
  refine wt_H_if (fun _ => wt_H_some f0) (fun _ => ?_)
  refine wt_H_gd (fun g => ?_)
  have gi := wt_ixn g
  have en := wt_tnI gi.1
  refine wt_H_bh (wq_md_movesAll n hn (283 + Int32.toNatClampNeg (wt_gf s0 108 41)) (0 : Int32) s0 (wt_RI_fno v.1 ε0 (Or.inr (by decide +kernel))) (by omega) (by omega) (fun h => absurd k0 h)).h (fun q hq => ?_)
  obtain ⟨s1, ε1⟩ : ∃ o : wt_St, o = wt_sf q 108 41 ((wt_gf q 108 41) + (1 : Int32)) := ⟨_, rfl⟩
  rw [← ε1]
  exact wt_H_some (wt_fr.tr (wt_fr.tr f0 hq.2.1 (fun i k h => by unfold wt_mF at h; unfold wt_iF; omega) (fun i h => by unfold wt_mA at h; unfold wt_iA; omega)) (wt_fr_sf ε1) (fun i k h => by unfold wt_iF; (try dsimp only at h); omega) (fun i h => h.elim))
set_option maxHeartbeats 4000000 in
theorem wf_md_restore (n : Nat) (hn : 4294967297 < n) {σ : wt_St} (v : wt_IV σ) : wt_H (wp_md_restore n σ) (fun q => wt_fr wt_iF wt_iA σ q.2) := by
  have k0 : (0 : Int32).toInt = 0 := by decide
  have k1 : (1 : Int32).toInt = 1 := by decide
  unfold wp_md_restore
  obtain ⟨s0, ε0⟩ : ∃ o : wt_St, o = wt_sf σ 108 0 (0 : Int32) := ⟨_, rfl⟩
  rw [← ε0]
  have f0 : wt_fr wt_iF wt_iA σ s0 := wt_frw (wt_fr_sf ε0) (fun i k h => by unfold wt_iF; (try dsimp only at h); omega) (fun i h => h.elim)
  refine wt_H_if (fun _ => wt_H_some f0) (fun c => ?_)
  have r0 := wt_RI_fno v.1 ε0 (Or.inr (by decide +kernel))
  have g41 : 0 ≤ (wt_gf s0 108 41).toInt ∧ (wt_gf s0 108 41).toInt ≤ 3 := wt_Rf9 r0
  have c' := wt_nceq c
  have es := wt_subE (x := wt_gf s0 108 41) (y := (1 : Int32)) (by omega) (by omega)
  obtain ⟨s1, ε1⟩ : ∃ o : wt_St, o = wt_sf s0 108 41 ((wt_gf s0 108 41) - (1 : Int32)) := ⟨_, rfl⟩
  rw [← ε1]
  have v41 := wt_ceq (wt_v_sf ε1)
  have f1 : wt_fr wt_iF wt_iA σ s1 := wt_fr.tr f0 (wt_fr_sf ε1) (fun i k h => by unfold wt_iF; (try dsimp only at h); omega) (fun i h => h.elim)
  refine wt_H_gd (fun g => ?_)
  have gi := wt_ixn g
  have en := wt_tnI gi.1
  have kk := (v.2.2.2.2 (Int32.toNatClampNeg (wt_gf s1 108 41)) (by rw [← wt_ceq ((wt_fr_sf ε0).1 108 41 (by (try dsimp only); omega))]; omega)).1
  refine wt_H_bh (wq_md_movesAll n hn (283 + Int32.toNatClampNeg (wt_gf s1 108 41)) (1 : Int32) s1 (wt_Rm9 r0 ε1 (show 0 ≤ ((wt_gf s0 108 41) - (1 : Int32)).toInt by omega) (show ((wt_gf s0 108 41) - (1 : Int32)).toInt ≤ 3 by omega)) (by omega) (by omega) (fun _ j hj => ?_)).h (fun q hq => ?_)
  · rw [(wt_fr_sf ε1).2 _ (fun h => h), (wt_fr_sf ε0).2 _ (fun h => h)]
    exact kk j hj
  · exact wt_H_some (wt_fr.tr f1 hq.2.1 (fun i k h => by unfold wt_mF at h; unfold wt_iF; omega) (fun i h => by unfold wt_mA at h; unfold wt_iA; omega))
set_option maxHeartbeats 4000000 in
theorem wj_image (n : Nat) (hn : 4294967297 < n) {σ : wt_St} (v : wt_IV σ) (j : wt_JT σ) : wt_H (wp_ap_image n σ) (fun q => wt_H (wp_md_image n q.2) (fun r => wt_JT r.2)) := by
  refine (wq_ap_image n hn σ).h.imp (fun q fq => ?_)
  have v2 : wt_IV q.2 := wt_IV_cls v fq (fun k => by (try dsimp only); omega) (fun i hi => by (try dsimp only); omega)
  refine (wf_md_image n hn v2).imp (fun r fr => ?_)
  exact wt_JT_fr j fq fr (by (try dsimp only); omega) (by (try dsimp only); omega) (by unfold wt_iA; omega) (by unfold wt_iA; omega)
set_option maxHeartbeats 4000000 in
theorem wj_restore (n : Nat) (hn : 4294967297 < n) {σ : wt_St} (v : wt_IV σ) (j : wt_JT σ) : wt_H (wp_ap_restore n σ) (fun q => wt_H (wp_md_restore n q.2) (fun r => wt_JT r.2)) := by
  refine (wq_ap_restore n hn σ).h.imp (fun q fq => ?_)
  have v2 : wt_IV q.2 := wt_IV_cls v fq (fun k => by (try dsimp only); omega) (fun i hi => by (try dsimp only); omega)
  refine (wf_md_restore n hn v2).imp (fun r fr => ?_)
  exact wt_JT_fr j fq fr (by (try dsimp only); omega) (by (try dsimp only); omega) (by unfold wt_iA; omega) (by unfold wt_iA; omega)
theorem wj_feed (n : Nat) (hn : 4294967297 < n) {σ : wt_St} (x1 x2 x3 x4 x5 : Int32) (v : wt_IV σ) (t : (wt_gf σ 1 2).toInt = (wt_gf σ 108 1).toInt) (j : wt_JT σ) : wt_H (wp_ap_feed n x1 x2 x3 x4 x5 σ) (fun q => wt_H (wp_md_feed n x1 x2 x3 x4 x5 q.2) (fun r => q.1 = r.1 ∧ wt_JT r.2)) := by
  intro q hq r hr
  obtain ⟨q', hq', fq, -⟩ := wq_ap_feed n hn x1 x2 x3 x4 x5 σ
  rw [hq] at hq'
  cases hq'
  have v2 : wt_IV q.2 := wt_IV_cls v fq (fun k => by (try dsimp only); omega) (fun i hi => by (try dsimp only); omega)
  obtain ⟨r', hr', fr, -⟩ := wq_md_feed n hn x1 x2 x3 x4 x5 q.2 v2.1
  rw [hr] at hr'
  cases hr'
  have tb : wt_TB σ q.2 := ⟨fun i hi => by rw [fq.2 109 (by (try dsimp only); omega)]; exact j i hi, wt_eqI (by rw [fq.1 108 1 (by (try dsimp only); omega)]; exact t)⟩
  have g1 : 0 ≤ (wt_gf q.2 108 1).toInt ∧ (wt_gf q.2 108 1).toInt ≤ 500 := wt_Rf0 v2.1
  obtain ⟨e1, e2, -⟩ := wr_feed n tb g1 q r hq hr
  refine ⟨e1, fun i hi => ?_⟩
  rw [fr.2 2 (by (try dsimp only); omega)]
  exact e2 i hi
set_option maxHeartbeats 4000000 in
theorem wj_kase (n : Nat) (hn : 4294967297 < n) {σ : wt_St} (x1 : Int32) (v : wt_IV σ) (j : wt_JT σ) : wt_H (wp_ap_kase n x1 σ) (fun q => wt_H (wp_md_kase n x1 q.2.2) (fun r => wt_JT r.2)) := by
  refine (wq_ap_kase n hn x1 σ).h.imp (fun q hq => ?_)
  have fq := hq.1
  have v2 : wt_IV q.2.2 := wt_IV_cls v fq (fun k => (by (try dsimp only); first | omega | exact fun h => h)) (fun i hi => (by (try dsimp only); first | omega | exact fun h => h))
  refine (wq_md_kase n hn x1 q.2.2 v2.1 v2.2.1).h.imp (fun r hr => ?_)
  have fr := hr.1
  exact wt_JT_fr j fq fr (by (try dsimp only); first | omega | exact fun h => h) (by (try dsimp only); first | omega | exact fun h => h) (by (try dsimp only); first | omega | exact fun h => h) (by (try dsimp only); first | omega | exact fun h => h)
set_option maxHeartbeats 4000000 in
theorem wj_tongue (n : Nat) (hn : 4294967297 < n) {σ : wt_St} (x1 : Int32) (v : wt_IV σ) (j : wt_JT σ) : wt_H (wp_ap_tongue n x1 σ) (fun q => wt_H (wp_md_tongue n x1 q.2.2) (fun r => wt_JT r.2)) := by
  refine (wq_ap_tongue n hn x1 σ).h.imp (fun q hq => ?_)
  have fq := hq.1
  have v2 : wt_IV q.2.2 := wt_IV_cls v fq (fun k => (by (try dsimp only); first | omega | exact fun h => h)) (fun i hi => (by (try dsimp only); first | omega | exact fun h => h))
  refine (wq_md_tongue n hn x1 q.2.2 v2.1).h.imp (fun r hr => ?_)
  have fr := hr.1
  exact wt_JT_fr j fq fr (by (try dsimp only); first | omega | exact fun h => h) (by (try dsimp only); first | omega | exact fun h => h) (by (try dsimp only); first | omega | exact fun h => h) (by (try dsimp only); first | omega | exact fun h => h)
set_option maxHeartbeats 4000000 in
theorem wj_text (n : Nat) (hn : 4294967297 < n) {σ : wt_St} (x1 : Int32) (v : wt_IV σ) (j : wt_JT σ) : wt_H (wp_ap_text n x1 σ) (fun q => wt_H (wp_md_text n x1 q.2.2) (fun r => wt_JT r.2)) := by
  refine (wq_ap_text n hn x1 σ).h.imp (fun q hq => ?_)
  have fq := hq.1
  have v2 : wt_IV q.2.2 := wt_IV_cls v fq (fun k => (by (try dsimp only); first | omega | exact fun h => h)) (fun i hi => (by (try dsimp only); first | omega | exact fun h => h))
  refine (wq_md_text n hn x1 q.2.2 v2.1).h.imp (fun r hr => ?_)
  have fr := hr.1
  exact wt_JT_fr j fq fr (by (try dsimp only); first | omega | exact fun h => h) (by (try dsimp only); first | omega | exact fun h => h) (by (try dsimp only); first | omega | exact fun h => h) (by (try dsimp only); first | omega | exact fun h => h)
set_option maxHeartbeats 4000000 in
theorem wj_fault (n : Nat) (hn : 4294967297 < n) {σ : wt_St} (v : wt_IV σ) (j : wt_JT σ) : wt_H (wp_ap_fault n σ) (fun q => wt_H (wp_md_fault n q.2) (fun r => wt_JT r.2)) := by
  refine (wq_ap_fault n hn σ).h.imp (fun q hq => ?_)
  have fq := (by rw [hq]; exact wt_fr.rf : wt_fr (fun _ _ => False) (fun _ => False) σ q.2)
  have v2 : wt_IV q.2 := wt_IV_cls v fq (fun k => (by (try dsimp only); first | omega | exact fun h => h)) (fun i hi => (by (try dsimp only); first | omega | exact fun h => h))
  refine (wq_md_fault n hn q.2 v2.1).h.imp (fun r hr => ?_)
  have fr := hr.1
  exact wt_JT_fr j fq fr (by (try dsimp only); first | omega | exact fun h => h) (by (try dsimp only); first | omega | exact fun h => h) (by (try dsimp only); first | omega | exact fun h => h) (by (try dsimp only); first | omega | exact fun h => h)
set_option maxHeartbeats 4000000 in
theorem wj_told (n : Nat) (hn : 4294967297 < n) {σ : wt_St} (x1 : Int32) (v : wt_IV σ) (j : wt_JT σ) : wt_H (wp_ap_told n x1 σ) (fun q => wt_H (wp_md_told n x1 q.2.2) (fun r => wt_JT r.2)) := by
  refine (wq_ap_told n hn x1 σ).h.imp (fun q hq => ?_)
  have fq := (by rw [hq.1]; exact wt_fr.rf : wt_fr (fun _ _ => False) (fun _ => False) σ q.2.2)
  have v2 : wt_IV q.2.2 := wt_IV_cls v fq (fun k => (by (try dsimp only); first | omega | exact fun h => h)) (fun i hi => (by (try dsimp only); first | omega | exact fun h => h))
  refine (wq_md_told n hn x1 q.2.2 v2.1).h.imp (fun r hr => ?_)
  have fr := hr.1
  exact wt_JT_fr j fq fr (by (try dsimp only); first | omega | exact fun h => h) (by (try dsimp only); first | omega | exact fun h => h) (by (try dsimp only); first | omega | exact fun h => h) (by (try dsimp only); first | omega | exact fun h => h)
set_option maxHeartbeats 4000000 in
theorem wj_letter (n : Nat) (hn : 4294967297 < n) {σ : wt_St} (x1 x2 : Int32) (v : wt_IV σ) (j : wt_JT σ) : wt_H (wp_ap_letter n x1 x2 σ) (fun q => wt_H (wp_md_letter n x1 x2 q.2.2) (fun r => wt_JT r.2)) := by
  refine (wq_ap_letter n hn x1 x2 σ).h.imp (fun q hq => ?_)
  have fq := (by rw [hq.1]; exact wt_fr.rf : wt_fr (fun _ _ => False) (fun _ => False) σ q.2.2)
  have v2 : wt_IV q.2.2 := wt_IV_cls v fq (fun k => (by (try dsimp only); first | omega | exact fun h => h)) (fun i hi => (by (try dsimp only); first | omega | exact fun h => h))
  refine (wq_md_letter n hn x1 x2 q.2.2 v2.1).h.imp (fun r hr => ?_)
  have fr := hr.1
  exact wt_JT_fr j fq fr (by (try dsimp only); first | omega | exact fun h => h) (by (try dsimp only); first | omega | exact fun h => h) (by (try dsimp only); first | omega | exact fun h => h) (by (try dsimp only); first | omega | exact fun h => h)
set_option maxHeartbeats 4000000 in
theorem wj_piece (n : Nat) (hn : 4294967297 < n) {σ : wt_St} (x1 x2 x3 : Int32) (v : wt_IV σ) (j : wt_JT σ) : wt_H (wp_ap_piece n x1 x2 x3 σ) (fun q => wt_H (wp_md_piece n x1 x2 x3 q.2.2) (fun r => wt_JT r.2)) := by
  refine (wq_ap_piece n hn x1 x2 x3 σ).h.imp (fun q hq => ?_)
  have fq := (by rw [hq.1]; exact wt_fr.rf : wt_fr (fun _ _ => False) (fun _ => False) σ q.2.2)
  have v2 : wt_IV q.2.2 := wt_IV_cls v fq (fun k => (by (try dsimp only); first | omega | exact fun h => h)) (fun i hi => (by (try dsimp only); first | omega | exact fun h => h))
  refine (wq_md_piece n hn x1 x2 x3 q.2.2 v2.1).h.imp (fun r hr => ?_)
  have fr := hr.1
  exact wt_JT_fr j fq fr (by (try dsimp only); first | omega | exact fun h => h) (by (try dsimp only); first | omega | exact fun h => h) (by (try dsimp only); first | omega | exact fun h => h) (by (try dsimp only); first | omega | exact fun h => h)
set_option maxHeartbeats 4000000 in
theorem wj_word (n : Nat) (hn : 4294967297 < n) {σ : wt_St} (x1 x2 : Int32) (v : wt_IV σ) (j : wt_JT σ) : wt_H (wp_ap_word n x1 x2 σ) (fun q => wt_H (wp_md_word n x1 x2 q.2.2) (fun r => wt_JT r.2)) := by
  refine (wq_ap_word n hn x1 x2 σ).h.imp (fun q hq => ?_)
  have fq := hq.1
  have v2 : wt_IV q.2.2 := wt_IV_cls v fq (fun k => (by (try dsimp only); first | omega | exact fun h => h)) (fun i hi => (by (try dsimp only); first | omega | exact fun h => h))
  refine (wq_md_word n hn x1 x2 q.2.2 v2.1).h.imp (fun r hr => ?_)
  have fr := hr.1
  exact wt_JT_fr j fq fr (by (try dsimp only); first | omega | exact fun h => h) (by (try dsimp only); first | omega | exact fun h => h) (by (try dsimp only); first | omega | exact fun h => h) (by (try dsimp only); first | omega | exact fun h => h)
set_option maxHeartbeats 4000000 in
theorem wj_at (n : Nat) (hn : 4294967297 < n) {σ : wt_St} (x1 x2 : Int32) (v : wt_IV σ) (j : wt_JT σ) : wt_H (wp_ap_at n x1 x2 σ) (fun q => wt_H (wp_md_at n x1 x2 q.2.2) (fun r => wt_JT r.2)) := by
  refine (wq_ap_at n hn x1 x2 σ).h.imp (fun q hq => ?_)
  have fq := (by rw [hq.1]; exact wt_fr.rf : wt_fr (fun _ _ => False) (fun _ => False) σ q.2.2)
  have v2 : wt_IV q.2.2 := wt_IV_cls v fq (fun k => (by (try dsimp only); first | omega | exact fun h => h)) (fun i hi => (by (try dsimp only); first | omega | exact fun h => h))
  refine (wq_md_at n hn x1 x2 q.2.2 v2.1).h.imp (fun r hr => ?_)
  have fr := hr.1
  exact wt_JT_fr j fq fr (by (try dsimp only); first | omega | exact fun h => h) (by (try dsimp only); first | omega | exact fun h => h) (by (try dsimp only); first | omega | exact fun h => h) (by (try dsimp only); first | omega | exact fun h => h)
set_option maxHeartbeats 4000000 in
theorem wj_needs (n : Nat) (hn : 4294967297 < n) {σ : wt_St} (x1 x2 : Int32) (v : wt_IV σ) (j : wt_JT σ) : wt_H (wp_ap_needs n x1 x2 σ) (fun q => wt_H (wp_md_needs n x1 x2 q.2.2) (fun r => wt_JT r.2)) := by
  refine (wq_ap_needs n hn x1 x2 σ).h.imp (fun q hq => ?_)
  have fq := (by rw [hq.1]; exact wt_fr.rf : wt_fr (fun _ _ => False) (fun _ => False) σ q.2.2)
  have v2 : wt_IV q.2.2 := wt_IV_cls v fq (fun k => (by (try dsimp only); first | omega | exact fun h => h)) (fun i hi => (by (try dsimp only); first | omega | exact fun h => h))
  refine (wq_md_needs n hn x1 x2 q.2.2 v2.1).h.imp (fun r hr => ?_)
  have fr := hr.1
  exact wt_JT_fr j fq fr (by (try dsimp only); first | omega | exact fun h => h) (by (try dsimp only); first | omega | exact fun h => h) (by (try dsimp only); first | omega | exact fun h => h) (by (try dsimp only); first | omega | exact fun h => h)
set_option maxHeartbeats 4000000 in
theorem wj_habit (n : Nat) (hn : 4294967297 < n) {σ : wt_St} (x1 : Int32) (v : wt_IV σ) (j : wt_JT σ) : wt_H (wp_ap_habit n x1 σ) (fun q => wt_H (wp_md_habit n x1 q.2.2) (fun r => wt_JT r.2)) := by
  refine (wq_ap_habit n hn x1 σ).h.imp (fun q hq => ?_)
  have fq := hq.1
  have v2 : wt_IV q.2.2 := wt_IV_cls v fq (fun k => (by (try dsimp only); first | omega | exact fun h => h)) (fun i hi => (by (try dsimp only); first | omega | exact fun h => h))
  refine (wq_md_habit n hn x1 q.2.2 v2.1).h.imp (fun r hr => ?_)
  have fr := hr.1
  exact wt_JT_fr j fq fr (by (try dsimp only); first | omega | exact fun h => h) (by (try dsimp only); first | omega | exact fun h => h) (by (try dsimp only); first | omega | exact fun h => h) (by (try dsimp only); first | omega | exact fun h => h)
set_option maxHeartbeats 4000000 in
theorem wj_can (n : Nat) (hn : 4294967297 < n) {σ : wt_St} (x1 : Int32) (v : wt_IV σ) (j : wt_JT σ) : wt_H (wp_ap_can n x1 σ) (fun q => wt_H (wp_md_can n x1 q.2.2) (fun r => wt_JT r.2)) := by
  refine (wq_ap_can n hn x1 σ).h.imp (fun q hq => ?_)
  have fq := hq.1
  have v2 : wt_IV q.2.2 := wt_IV_cls v fq (fun k => (by (try dsimp only); first | omega | exact fun h => h)) (fun i hi => (by (try dsimp only); first | omega | exact fun h => h))
  refine (wq_md_can n hn x1 q.2.2 v2.1).h.imp (fun r hr => ?_)
  have fr := hr.1
  exact wt_JT_fr j fq fr (by (try dsimp only); first | omega | exact fun h => h) (by (try dsimp only); first | omega | exact fun h => h) (by (try dsimp only); first | omega | exact fun h => h) (by (try dsimp only); first | omega | exact fun h => h)
set_option maxHeartbeats 4000000 in
theorem wj_lacks (n : Nat) (hn : 4294967297 < n) {σ : wt_St} (x1 x2 : Int32) (v : wt_IV σ) (j : wt_JT σ) : wt_H (wp_ap_lacks n x1 x2 σ) (fun q => wt_H (wp_md_lacks n x1 x2 q.2.2) (fun r => wt_JT r.2)) := by
  refine (wq_ap_lacks n hn x1 x2 σ).h.imp (fun q hq => ?_)
  have fq := hq.1
  have v2 : wt_IV q.2.2 := wt_IV_cls v fq (fun k => (by (try dsimp only); first | omega | exact fun h => h)) (fun i hi => (by (try dsimp only); first | omega | exact fun h => h))
  refine (wq_md_lacks n hn x1 x2 q.2.2 v2.1).h.imp (fun r hr => ?_)
  have fr := hr.1
  exact wt_JT_fr j fq fr (by (try dsimp only); first | omega | exact fun h => h) (by (try dsimp only); first | omega | exact fun h => h) (by (try dsimp only); first | omega | exact fun h => h) (by (try dsimp only); first | omega | exact fun h => h)
set_option maxHeartbeats 4000000 in
theorem wj_set (n : Nat) (hn : 4294967297 < n) {σ : wt_St} (x1 x2 : Int32) (v : wt_IV σ) (j : wt_JT σ) : wt_H (wp_ap_set n x1 x2 σ) (fun q => wt_H (wp_md_set n x1 x2 q.2.2) (fun r => wt_JT r.2)) := by
  refine (wq_ap_set n hn x1 x2 σ).h.imp (fun q hq => ?_)
  have fq := hq.1
  have v2 : wt_IV q.2.2 := wt_IV_cls v fq (fun k => (by (try dsimp only); first | omega | exact fun h => h)) (fun i hi => (by (try dsimp only); first | omega | exact fun h => h))
  refine (wq_md_set n hn x1 x2 q.2.2 v2.1).h.imp (fun r hr => ?_)
  have fr := hr.1
  exact wt_JT_fr j fq fr (by (try dsimp only); first | omega | exact fun h => h) (by (try dsimp only); first | omega | exact fun h => h) (by (try dsimp only); first | omega | exact fun h => h) (by (try dsimp only); first | omega | exact fun h => h)
set_option maxHeartbeats 4000000 in
theorem wj_print (n : Nat) (hn : 4294967297 < n) {σ : wt_St} (x1 x2 : Int32) (v : wt_IV σ) (j : wt_JT σ) : wt_H (wp_ap_print n x1 x2 σ) (fun q => wt_H (wp_md_print n x1 x2 q.2.2) (fun r => wt_JT r.2)) := by
  refine (wq_ap_print n hn x1 x2 σ).h.imp (fun q hq => ?_)
  have fq := hq.1
  have v2 : wt_IV q.2.2 := wt_IV_cls v fq (fun k => (by (try dsimp only); first | omega | exact fun h => h)) (fun i hi => (by (try dsimp only); first | omega | exact fun h => h))
  refine (wq_md_print n hn x1 x2 q.2.2 v2.1 v2.2.2.2.1).h.imp (fun r hr => ?_)
  have fr := hr.1
  exact wt_JT_fr j fq fr (by (try dsimp only); first | omega | exact fun h => h) (by (try dsimp only); first | omega | exact fun h => h) (by (try dsimp only); first | omega | exact fun h => h) (by (try dsimp only); first | omega | exact fun h => h)
set_option maxHeartbeats 4000000 in
theorem wj_apart (n : Nat) (hn : 4294967297 < n) {σ : wt_St} (x1 : Int32) (v : wt_IV σ) (j : wt_JT σ) : wt_H (wp_ap_apart n x1 σ) (fun q => wt_H (wp_md_apart n x1 q.2.2) (fun r => wt_JT r.2)) := by
  refine (wq_ap_apart n hn x1 σ).h.imp (fun q hq => ?_)
  have fq := hq.1
  have v2 : wt_IV q.2.2 := wt_IV_cls v fq (fun k => (by (try dsimp only); first | omega | exact fun h => h)) (fun i hi => (by (try dsimp only); first | omega | exact fun h => h))
  refine (wq_md_apart n hn x1 q.2.2 v2.1).h.imp (fun r hr => ?_)
  have fr := hr.1
  exact wt_JT_fr j fq fr (by (try dsimp only); first | omega | exact fun h => h) (by (try dsimp only); first | omega | exact fun h => h) (by (try dsimp only); first | omega | exact fun h => h) (by (try dsimp only); first | omega | exact fun h => h)
set_option maxHeartbeats 4000000 in
theorem wj_page (n : Nat) (hn : 4294967297 < n) {σ : wt_St} (x1 x2 : Int32) (v : wt_IV σ) (j : wt_JT σ) : wt_H (wp_ap_page n x1 x2 σ) (fun q => wt_H (wp_md_page n x1 x2 q.2.2) (fun r => wt_JT r.2)) := by
  refine (wq_ap_page n hn x1 x2 σ).h.imp (fun q hq => ?_)
  have fq := hq.1
  have v2 : wt_IV q.2.2 := wt_IV_cls v fq (fun k => (by (try dsimp only); first | omega | exact fun h => h)) (fun i hi => (by (try dsimp only); first | omega | exact fun h => h))
  refine (wq_md_page n hn x1 x2 q.2.2 v2.1 v2.2.2.1).h.imp (fun r hr => ?_)
  have fr := hr.1
  exact wt_JT_fr j fq fr (by (try dsimp only); first | omega | exact fun h => h) (by (try dsimp only); first | omega | exact fun h => h) (by (try dsimp only); first | omega | exact fun h => h) (by (try dsimp only); first | omega | exact fun h => h)
set_option maxHeartbeats 4000000 in
theorem wj_read (n : Nat) (hn : 4294967297 < n) {σ : wt_St} (x1 x2 : Int32) (v : wt_IV σ) (j : wt_JT σ) : wt_H (wp_ap_read n x1 x2 σ) (fun q => wt_H (wp_md_read n x1 x2 q.2.2) (fun r => wt_JT r.2)) := by
  refine (wq_ap_read n hn x1 x2 σ).h.imp (fun q hq => ?_)
  have fq := hq.1
  have v2 : wt_IV q.2.2 := wt_IV_cls v fq (fun k => (by (try dsimp only); first | omega | exact fun h => h)) (fun i hi => (by (try dsimp only); first | omega | exact fun h => h))
  refine (wq_md_read n hn x1 x2 q.2.2 v2.1 v2.2.2.1).h.imp (fun r hr => ?_)
  have fr := hr.1
  exact wt_JT_fr j fq fr (by (try dsimp only); first | omega | exact fun h => h) (by (try dsimp only); first | omega | exact fun h => h) (by (try dsimp only); first | omega | exact fun h => h) (by (try dsimp only); first | omega | exact fun h => h)
set_option maxHeartbeats 4000000 in
theorem wj_least (n : Nat) (hn : 4294967297 < n) {σ : wt_St} (x1 x2 x3 : Int32) (v : wt_IV σ) (j : wt_JT σ) : wt_H (wp_ap_least n x1 x2 x3 σ) (fun q => wt_H (wp_md_least n x1 x2 x3 q.2.2) (fun r => wt_JT r.2)) := by
  refine (wq_ap_least n hn x1 x2 x3 σ).h.imp (fun q hq => ?_)
  have fq := hq.1
  have v2 : wt_IV q.2.2 := wt_IV_cls v fq (fun k => (by (try dsimp only); first | omega | exact fun h => h)) (fun i hi => (by (try dsimp only); first | omega | exact fun h => h))
  refine (wq_md_least n hn x1 x2 x3 q.2.2 v2.1).h.imp (fun r hr => ?_)
  have fr := hr.1
  exact wt_JT_fr j fq fr (by (try dsimp only); first | omega | exact fun h => h) (by (try dsimp only); first | omega | exact fun h => h) (by (try dsimp only); first | omega | exact fun h => h) (by (try dsimp only); first | omega | exact fun h => h)
set_option maxHeartbeats 4000000 in
theorem wj_fitting (n : Nat) (hn : 4294967297 < n) {σ : wt_St} (x1 x2 x3 x4 : Int32) (v : wt_IV σ) (j : wt_JT σ) : wt_H (wp_ap_fitting n x1 x2 x3 x4 σ) (fun q => wt_H (wp_md_fitting n x1 x2 x3 x4 q.2.2) (fun r => wt_JT r.2)) := by
  refine (wq_ap_fitting n hn x1 x2 x3 x4 σ).h.imp (fun q hq => ?_)
  have fq := hq.1
  have v2 : wt_IV q.2.2 := wt_IV_cls v fq (fun k => (by (try dsimp only); first | omega | exact fun h => h)) (fun i hi => (by (try dsimp only); first | omega | exact fun h => h))
  refine (wq_md_fitting n hn x1 x2 x3 x4 q.2.2 v2.1).h.imp (fun r hr => ?_)
  have fr := hr.1
  exact wt_JT_fr j fq fr (by (try dsimp only); first | omega | exact fun h => h) (by (try dsimp only); first | omega | exact fun h => h) (by (try dsimp only); first | omega | exact fun h => h) (by (try dsimp only); first | omega | exact fun h => h)
set_option maxHeartbeats 4000000 in
theorem wj_wordings (n : Nat) (hn : 4294967297 < n) {σ : wt_St} (x1 : Int32) (v : wt_IV σ) (j : wt_JT σ) : wt_H (wp_ap_wordings n x1 σ) (fun q => wt_H (wp_md_wordings n x1 q.2.2) (fun r => wt_JT r.2)) := by
  refine (wq_ap_wordings n hn x1 σ).h.imp (fun q hq => ?_)
  have fq := hq.1
  have v2 : wt_IV q.2.2 := wt_IV_cls v fq (fun k => (by (try dsimp only); first | omega | exact fun h => h)) (fun i hi => (by (try dsimp only); first | omega | exact fun h => h))
  refine (wq_md_wordings n hn x1 q.2.2 v2.1).h.imp (fun r hr => ?_)
  have fr := hr.1
  exact wt_JT_fr j fq fr (by (try dsimp only); first | omega | exact fun h => h) (by (try dsimp only); first | omega | exact fun h => h) (by (try dsimp only); first | omega | exact fun h => h) (by (try dsimp only); first | omega | exact fun h => h)
set_option maxHeartbeats 4000000 in
theorem wj_want (n : Nat) (hn : 4294967297 < n) {σ : wt_St} (x1 x2 x3 x4 : Int32) (v : wt_IV σ) (j : wt_JT σ) : wt_H (wp_ap_want n x1 x2 x3 x4 σ) (fun q => wt_H (wp_md_want n x1 x2 x3 x4 q.2.2) (fun r => wt_JT r.2)) := by
  refine (wq_ap_want n hn x1 x2 x3 x4 σ).h.imp (fun q hq => ?_)
  have fq := hq.1
  have v2 : wt_IV q.2.2 := wt_IV_cls v fq (fun k => (by (try dsimp only); first | omega | exact fun h => h)) (fun i hi => (by (try dsimp only); first | omega | exact fun h => h))
  refine (wq_md_want n hn x1 x2 x3 x4 q.2.2 v2.1).h.imp (fun r hr => ?_)
  have fr := hr.1
  exact wt_JT_fr j fq fr (by (try dsimp only); first | omega | exact fun h => h) (by (try dsimp only); first | omega | exact fun h => h) (by (try dsimp only); first | omega | exact fun h => h) (by (try dsimp only); first | omega | exact fun h => h)
set_option maxHeartbeats 4000000 in
theorem wj_forget (n : Nat) (hn : 4294967297 < n) {σ : wt_St} (v : wt_IV σ) (j : wt_JT σ) : wt_H (wp_ap_forget n σ) (fun q => wt_H (wp_md_forget n q.2) (fun r => wt_JT r.2)) := by
  refine (wq_ap_forget n hn σ).h.imp (fun q hq => ?_)
  have fq := hq
  have v2 : wt_IV q.2 := wt_IV_cls v fq (fun k => (by (try dsimp only); first | omega | exact fun h => h)) (fun i hi => (by (try dsimp only); first | omega | exact fun h => h))
  refine (wq_md_forget n hn q.2 v2.1).h.imp (fun r hr => ?_)
  have fr := hr.1
  exact wt_JT_fr j fq fr (by (try dsimp only); first | omega | exact fun h => h) (by (try dsimp only); first | omega | exact fun h => h) (by (try dsimp only); first | omega | exact fun h => h) (by (try dsimp only); first | omega | exact fun h => h)
set_option maxHeartbeats 4000000 in
theorem wj_most (n : Nat) (hn : 4294967297 < n) {σ : wt_St} (x1 : Int32) (v : wt_IV σ) (j : wt_JT σ) : wt_H (wp_ap_most n x1 σ) (fun q => wt_H (wp_md_most n x1 q.2.2) (fun r => wt_JT r.2)) := by
  refine (wq_ap_most n hn x1 σ).h.imp (fun q hq => ?_)
  have fq := hq.1
  have v2 : wt_IV q.2.2 := wt_IV_cls v fq (fun k => (by (try dsimp only); first | omega | exact fun h => h)) (fun i hi => (by (try dsimp only); first | omega | exact fun h => h))
  refine (wq_md_most n hn x1 q.2.2 v2.1).h.imp (fun r hr => ?_)
  have fr := hr.1
  exact wt_JT_fr j fq fr (by (try dsimp only); first | omega | exact fun h => h) (by (try dsimp only); first | omega | exact fun h => h) (by (try dsimp only); first | omega | exact fun h => h) (by (try dsimp only); first | omega | exact fun h => h)
set_option maxHeartbeats 4000000 in
theorem wj_greedy (n : Nat) (hn : 4294967297 < n) {σ : wt_St} (x1 : Int32) (v : wt_IV σ) (j : wt_JT σ) : wt_H (wp_ap_greedy n x1 σ) (fun q => wt_H (wp_md_greedy n x1 q.2.2) (fun r => wt_JT r.2)) := by
  refine (wq_ap_greedy n hn x1 σ).h.imp (fun q hq => ?_)
  have fq := hq.1
  have v2 : wt_IV q.2.2 := wt_IV_cls v fq (fun k => (by (try dsimp only); first | omega | exact fun h => h)) (fun i hi => (by (try dsimp only); first | omega | exact fun h => h))
  refine (wq_md_greedy n hn x1 q.2.2 v2.1).h.imp (fun r hr => ?_)
  have fr := hr.1
  exact wt_JT_fr j fq fr (by (try dsimp only); first | omega | exact fun h => h) (by (try dsimp only); first | omega | exact fun h => h) (by (try dsimp only); first | omega | exact fun h => h) (by (try dsimp only); first | omega | exact fun h => h)
set_option maxHeartbeats 4000000 in
theorem wj_bound (n : Nat) (hn : 4294967297 < n) {σ : wt_St} (v : wt_IV σ) (j : wt_JT σ) : wt_H (wp_ap_bound n σ) (fun q => wt_H (wp_md_bound n q.2) (fun r => wt_JT r.2)) := by
  refine (wq_ap_bound n hn σ).h.imp (fun q hq => ?_)
  have fq := (by rw [hq]; exact wt_fr.rf : wt_fr (fun _ _ => False) (fun _ => False) σ q.2)
  have v2 : wt_IV q.2 := wt_IV_cls v fq (fun k => (by (try dsimp only); first | omega | exact fun h => h)) (fun i hi => (by (try dsimp only); first | omega | exact fun h => h))
  refine (wq_md_bound n hn q.2 v2.1).h.imp (fun r hr => ?_)
  have fr := hr.1
  exact wt_JT_fr j fq fr (by (try dsimp only); first | omega | exact fun h => h) (by (try dsimp only); first | omega | exact fun h => h) (by (try dsimp only); first | omega | exact fun h => h) (by (try dsimp only); first | omega | exact fun h => h)
set_option maxHeartbeats 4000000 in
theorem wj_said (n : Nat) (hn : 4294967297 < n) {σ : wt_St} (x1 x2 : Int32) (v : wt_IV σ) (j : wt_JT σ) : wt_H (wp_ap_said n x1 x2 σ) (fun q => wt_H (wp_md_said n x1 x2 q.2.2) (fun r => wt_JT r.2)) := by
  refine (wq_ap_said n hn x1 x2 σ).h.imp (fun q hq => ?_)
  have fq := hq.1
  have v2 : wt_IV q.2.2 := wt_IV_cls v fq (fun k => (by (try dsimp only); first | omega | exact fun h => h)) (fun i hi => (by (try dsimp only); first | omega | exact fun h => h))
  refine (wq_md_said n hn x1 x2 q.2.2 v2.1).h.imp (fun r hr => ?_)
  have fr := hr.1
  exact wt_JT_fr j fq fr (by (try dsimp only); first | omega | exact fun h => h) (by (try dsimp only); first | omega | exact fun h => h) (by (try dsimp only); first | omega | exact fun h => h) (by (try dsimp only); first | omega | exact fun h => h)
set_option maxHeartbeats 4000000 in
theorem wj_lost (n : Nat) (hn : 4294967297 < n) {σ : wt_St} (x1 : Int32) (v : wt_IV σ) (j : wt_JT σ) : wt_H (wp_ap_lost n x1 σ) (fun q => wt_H (wp_md_lost n x1 q.2.2) (fun r => wt_JT r.2)) := by
  refine (wq_ap_lost n hn x1 σ).h.imp (fun q hq => ?_)
  have fq := hq.1
  have v2 : wt_IV q.2.2 := wt_IV_cls v fq (fun k => (by (try dsimp only); first | omega | exact fun h => h)) (fun i hi => (by (try dsimp only); first | omega | exact fun h => h))
  refine (wq_md_lost n hn x1 q.2.2 v2.1).h.imp (fun r hr => ?_)
  have fr := hr.1
  exact wt_JT_fr j fq fr (by (try dsimp only); first | omega | exact fun h => h) (by (try dsimp only); first | omega | exact fun h => h) (by (try dsimp only); first | omega | exact fun h => h) (by (try dsimp only); first | omega | exact fun h => h)
set_option maxHeartbeats 4000000 in
theorem wj_ends (n : Nat) (hn : 4294967297 < n) {σ : wt_St} (x1 : Int32) (v : wt_IV σ) (j : wt_JT σ) : wt_H (wp_ap_ends n x1 σ) (fun q => wt_H (wp_md_ends n x1 q.2.2) (fun r => wt_JT r.2)) := by
  refine (wq_ap_ends n hn x1 σ).h.imp (fun q hq => ?_)
  have fq := hq.1
  have v2 : wt_IV q.2.2 := wt_IV_cls v fq (fun k => (by (try dsimp only); first | omega | exact fun h => h)) (fun i hi => (by (try dsimp only); first | omega | exact fun h => h))
  refine (wq_md_ends n hn x1 q.2.2 v2.1).h.imp (fun r hr => ?_)
  have fr := hr.1
  exact wt_JT_fr j fq fr (by (try dsimp only); first | omega | exact fun h => h) (by (try dsimp only); first | omega | exact fun h => h) (by (try dsimp only); first | omega | exact fun h => h) (by (try dsimp only); first | omega | exact fun h => h)
set_option maxHeartbeats 4000000 in
theorem wj_exchange (n : Nat) (hn : 4294967297 < n) {σ : wt_St} (x1 : Int32) (v : wt_IV σ) (j : wt_JT σ) : wt_H (wp_ap_exchange n x1 σ) (fun q => wt_H (wp_md_exchange n x1 q.2.2) (fun r => wt_JT r.2)) := by
  refine (wq_ap_exchange n hn x1 σ).h.imp (fun q hq => ?_)
  have fq := hq.1
  have v2 : wt_IV q.2.2 := wt_IV_cls v fq (fun k => (by (try dsimp only); first | omega | exact fun h => h)) (fun i hi => (by (try dsimp only); first | omega | exact fun h => h))
  refine (wq_md_exchange n hn x1 q.2.2 v2.1 v2.2.1).h.imp (fun r hr => ?_)
  have fr := hr.1
  exact wt_JT_fr j fq fr (by (try dsimp only); first | omega | exact fun h => h) (by (try dsimp only); first | omega | exact fun h => h) (by (try dsimp only); first | omega | exact fun h => h) (by (try dsimp only); first | omega | exact fun h => h)
set_option maxHeartbeats 4000000 in
theorem wj_cast (n : Nat) (hn : 4294967297 < n) {σ : wt_St} (x1 x2 : Int32) (v : wt_IV σ) (j : wt_JT σ) : wt_H (wp_ap_cast n x1 x2 σ) (fun q => wt_H (wp_md_cast n x1 x2 q.2.2) (fun r => wt_JT r.2)) := by
  refine (wq_ap_cast n hn x1 x2 σ).h.imp (fun q hq => ?_)
  have fq := hq.1
  have v2 : wt_IV q.2.2 := wt_IV_cls v fq (fun k => (by (try dsimp only); first | omega | exact fun h => h)) (fun i hi => (by (try dsimp only); first | omega | exact fun h => h))
  refine (wq_md_cast n hn x1 x2 q.2.2 v2.1 v2.2.1).h.imp (fun r hr => ?_)
  have fr := hr.1
  exact wt_JT_fr j fq fr (by (try dsimp only); first | omega | exact fun h => h) (by (try dsimp only); first | omega | exact fun h => h) (by (try dsimp only); first | omega | exact fun h => h) (by (try dsimp only); first | omega | exact fun h => h)
set_option maxHeartbeats 4000000 in
theorem wj_together (n : Nat) (hn : 4294967297 < n) {σ : wt_St} (x1 : Int32) (v : wt_IV σ) (j : wt_JT σ) : wt_H (wp_ap_together n x1 σ) (fun q => wt_H (wp_md_together n x1 q.2.2) (fun r => wt_JT r.2)) := by
  refine (wq_ap_together n hn x1 σ).h.imp (fun q hq => ?_)
  have fq := hq.1
  have v2 : wt_IV q.2.2 := wt_IV_cls v fq (fun k => (by (try dsimp only); first | omega | exact fun h => h)) (fun i hi => (by (try dsimp only); first | omega | exact fun h => h))
  refine (wq_md_together n hn x1 q.2.2 v2.1).h.imp (fun r hr => ?_)
  have fr := hr.1
  exact wt_JT_fr j fq fr (by (try dsimp only); first | omega | exact fun h => h) (by (try dsimp only); first | omega | exact fun h => h) (by (try dsimp only); first | omega | exact fun h => h) (by (try dsimp only); first | omega | exact fun h => h)
set_option maxHeartbeats 4000000 in
theorem wj_count (n : Nat) (hn : 4294967297 < n) {σ : wt_St} (x1 : Int32) (v : wt_IV σ) (j : wt_JT σ) : wt_H (wp_ap_count n x1 σ) (fun q => wt_H (wp_md_count n x1 q.2) (fun r => wt_JT r.2)) := by
  refine (wq_ap_count n hn x1 σ).h.imp (fun q hq => ?_)
  have fq := (by rw [hq]; exact wt_fr.rf : wt_fr (fun _ _ => False) (fun _ => False) σ q.2)
  have v2 : wt_IV q.2 := wt_IV_cls v fq (fun k => (by (try dsimp only); first | omega | exact fun h => h)) (fun i hi => (by (try dsimp only); first | omega | exact fun h => h))
  refine (wq_md_count n hn x1 q.2 v2.1).h.imp (fun r hr => ?_)
  have fr := hr.1
  exact wt_JT_fr j fq fr (by (try dsimp only); first | omega | exact fun h => h) (by (try dsimp only); first | omega | exact fun h => h) (by (try dsimp only); first | omega | exact fun h => h) (by (try dsimp only); first | omega | exact fun h => h)
