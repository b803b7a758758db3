set_option maxHeartbeats 4000000 in
theorem wa2_habit (n : Nat) (hn : 4294967297 < n) {σ : wt_St} (x1 : Int32) (v : wt_IV σ) (j : wu_RM σ) : wt_H (wp_ap_habit n x1 σ) (fun q => wt_H (wp_md_habit n x1 q.2.2) (fun r => ((q.1 = 1 ∧ wt_gf r.2 108 0 = 1) ∨ (q.1 = 0 ∧ wt_gf r.2 108 0 = 0 ∧ q.2.1 = r.1)) ∧ wu_RM r.2)) := by
  intro q hq r hr
  obtain ⟨q', hq', hfq⟩ := wq_ap_habit n hn x1 σ
  rw [hq] at hq'
  cases hq'
  have fq := hfq.1
  have v2 : wt_IV q.2.2 := wt_IV_cls v fq (fun k => (by (try dsimp only); first | omega | exact fun h => h | (intros; omega) | decide)) (fun i hi => (by (try dsimp only); first | omega | exact fun h => h | (intros; omega) | decide))
  obtain ⟨r', hr', hfr⟩ := wq_md_habit n hn x1 q.2.2 v2.1
  rw [hr] at hr'
  cases hr'
  have fr := hfr.1
  have rr : wt_RI r.2 := hfr.2
  obtain ⟨lcm, scm, sim⟩ := wu_midM j v.1 fq (fun k => by (try dsimp only); first | omega | exact fun h => h) (fun i h => by (try dsimp only); first | omega | exact fun h => h)
  obtain ⟨an, sc⟩ := wr_habit n scm q r hq hr
  obtain ⟨lc, si⟩ := wu_LI_fr v.1 v2.1 j fq fr (fun i k h => by unfold wu_iF at h; (try dsimp only); first | omega | exact fun h => h) (fun i h => by unfold wu_iA at h; (try dsimp only); first | omega | exact fun h => h) (fun k => by (try dsimp only); first | omega | exact fun h => h) (fun i h => by (try dsimp only); first | omega | exact fun h => h) (fun i k h => by (try dsimp only); first | omega | exact fun h => h) (fun i h => by (try dsimp only); first | omega | exact fun h => h) (fun k h => by unfold wu_iG at h; (try dsimp only); first | omega | exact fun h => h) (fun i h => by unfold wu_iB at h; (try dsimp only); first | omega | exact fun h => h)
  exact ⟨an, lc, wu_endSC sc fr (fun i k h => by (try dsimp only); first | omega | exact fun h => h) (fun i h => by (try dsimp only); first | omega | exact fun h => h), si⟩
set_option maxHeartbeats 4000000 in
theorem wa2_want (n : Nat) (hn : 4294967297 < n) {σ : wt_St} (x1 x2 x3 x4 : Int32) (v : wt_IV σ) (tx : wu_TX σ σ) (j : wu_RM σ) : wt_H (wp_ap_want n x1 x2 x3 x4 σ) (fun q => wt_H (wp_md_want n x1 x2 x3 x4 q.2.2) (fun r => ((q.1 = 2 ∧ wt_gf r.2 108 0 = 1) ∨ (q.1 = 1 ∧ wt_gf r.2 108 0 = 2) ∨ (q.1 = 0 ∧ wt_gf r.2 108 0 = 0 ∧ q.2.1 = r.1)) ∧ wu_RM r.2)) := by
  intro q hq r hr
  obtain ⟨q', hq', hfq⟩ := wq_ap_want n hn x1 x2 x3 x4 σ
  rw [hq] at hq'
  cases hq'
  have fq := hfq.1
  have v2 : wt_IV q.2.2 := wt_IV_cls v fq (fun k => (by (try dsimp only); first | omega | exact fun h => h | (intros; omega) | decide)) (fun i hi => (by (try dsimp only); first | omega | exact fun h => h | (intros; omega) | decide))
  obtain ⟨r', hr', hfr⟩ := wq_md_want n hn x1 x2 x3 x4 q.2.2 v2.1
  rw [hr] at hr'
  cases hr'
  have fr := hfr.1
  have rr : wt_RI r.2 := hfr.2
  obtain ⟨lcm, scm, sim⟩ := wu_midM j v.1 fq (fun k => by (try dsimp only); first | omega | exact fun h => h) (fun i h => by (try dsimp only); first | omega | exact fun h => h)
  obtain ⟨an, sc⟩ := wr_want n v2.1 (tx.1.trans (fq.1 108 39 (by (try dsimp only); first | omega | exact fun h => h)).symm) scm q r hq hr
  obtain ⟨lc, si⟩ := wu_LI_fr v.1 v2.1 j fq fr (fun i k h => by unfold wu_iF at h; (try dsimp only); first | omega | exact fun h => h) (fun i h => by unfold wu_iA at h; (try dsimp only); first | omega | exact fun h => h) (fun k => by (try dsimp only); first | omega | exact fun h => h) (fun i h => by (try dsimp only); first | omega | exact fun h => h) (fun i k h => by (try dsimp only); first | omega | exact fun h => h) (fun i h => by (try dsimp only); first | omega | exact fun h => h) (fun k h => by unfold wu_iG at h; (try dsimp only); first | omega | exact fun h => h) (fun i h => by unfold wu_iB at h; (try dsimp only); first | omega | exact fun h => h)
  exact ⟨an, lc, wu_endSC sc fr (fun i k h => by (try dsimp only); first | omega | exact fun h => h) (fun i h => by (try dsimp only); first | omega | exact fun h => h), si⟩
set_option maxHeartbeats 4000000 in
theorem wa2_set (n : Nat) (hn : 4294967297 < n) {σ : wt_St} (x1 x2 : Int32) (v : wt_IV σ) (to : wt_TO σ σ) (tx : wu_TX σ σ) (j : wu_RM σ) : wt_H (wp_ap_set n x1 x2 σ) (fun q => wt_H (wp_md_set n x1 x2 q.2.2) (fun r => ((q.1 = 2 ∧ wt_gf r.2 108 0 = 1) ∨ (q.1 = 1 ∧ wt_gf r.2 108 0 = 2) ∨ (q.1 = 0 ∧ wt_gf r.2 108 0 = 0 ∧ q.2.1 = r.1)) ∧ wu_RM r.2)) := by
  intro q hq r hr
  obtain ⟨q', hq', hfq⟩ := wq_ap_set n hn x1 x2 σ
  rw [hq] at hq'
  cases hq'
  have fq := hfq.1
  have v2 : wt_IV q.2.2 := wt_IV_cls v fq (fun k => (by (try dsimp only); first | omega | exact fun h => h | (intros; omega) | decide)) (fun i hi => (by (try dsimp only); first | omega | exact fun h => h | (intros; omega) | decide))
  obtain ⟨r', hr', hfr⟩ := wq_md_set n hn x1 x2 q.2.2 v2.1
  rw [hr] at hr'
  cases hr'
  have fr := hfr.1
  have rr : wt_RI r.2 := hfr.2
  obtain ⟨lcm, scm, sim⟩ := wu_midM j v.1 fq (fun k => by (try dsimp only); first | omega | exact fun h => h) (fun i h => by (try dsimp only); first | omega | exact fun h => h)
  obtain ⟨-, txm⟩ := wu_mid to tx v.1 fq (fun k => by (try dsimp only); first | omega | exact fun h => h) (fun i h => by (try dsimp only); first | omega | exact fun h => h)
  obtain ⟨an, sc⟩ := wr_set n hn v2 txm lcm scm q r hq hr
  obtain ⟨lc, si⟩ := wu_LI_fr v.1 v2.1 j fq fr (fun i k h => by unfold wu_iF at h; (try dsimp only); first | omega | exact fun h => h) (fun i h => by unfold wu_iA at h; (try dsimp only); first | omega | exact fun h => h) (fun k => by (try dsimp only); first | omega | exact fun h => h) (fun i h => by (try dsimp only); first | omega | exact fun h => h) (fun i k h => by (try dsimp only); first | omega | exact fun h => h) (fun i h => by (try dsimp only); first | omega | exact fun h => h) (fun k h => by unfold wu_iG at h; (try dsimp only); first | omega | exact fun h => h) (fun i h => by unfold wu_iB at h; (try dsimp only); first | omega | exact fun h => h)
  exact ⟨an, lc, wu_endSC sc fr (fun i k h => by (try dsimp only); first | omega | exact fun h => h) (fun i h => by (try dsimp only); first | omega | exact fun h => h), si⟩
set_option maxHeartbeats 4000000 in
theorem wa2_print (n : Nat) (hn : 4294967297 < n) {σ : wt_St} (x1 x2 : Int32) (v : wt_IV σ) (j : wu_RM σ) : wt_H (wp_ap_print n x1 x2 σ) (fun q => wt_H (wp_md_print n x1 x2 q.2.2) (fun r => ((q.1 = 2 ∧ wt_gf r.2 108 0 = 1) ∨ (q.1 = 1 ∧ wt_gf r.2 108 0 = 2) ∨ (q.1 = 0 ∧ wt_gf r.2 108 0 = 0 ∧ q.2.1 = r.1)) ∧ wu_RM r.2)) := by
  intro q hq r hr
  obtain ⟨q', hq', hfq⟩ := wq_ap_print n hn x1 x2 σ
  rw [hq] at hq'
  cases hq'
  have fq := hfq.1
  have v2 : wt_IV q.2.2 := wt_IV_cls v fq (fun k => (by (try dsimp only); first | omega | exact fun h => h | (intros; omega) | decide)) (fun i hi => (by (try dsimp only); first | omega | exact fun h => h | (intros; omega) | decide))
  obtain ⟨r', hr', hfr⟩ := wq_md_print n hn x1 x2 q.2.2 v2.1 v2.2.2.2.1
  rw [hr] at hr'
  cases hr'
  have fr := hfr.1
  have rr : wt_RI r.2 := hfr.2
  obtain ⟨lcm, scm, sim⟩ := wu_midM j v.1 fq (fun k => by (try dsimp only); first | omega | exact fun h => h) (fun i h => by (try dsimp only); first | omega | exact fun h => h)
  obtain ⟨an, sc⟩ := wr_print n hn v2 scm q r hq hr
  obtain ⟨lc, si⟩ := wu_LI_fr v.1 v2.1 j fq fr (fun i k h => by unfold wu_iF at h; (try dsimp only); first | omega | exact fun h => h) (fun i h => by unfold wu_iA at h; (try dsimp only); first | omega | exact fun h => h) (fun k => by (try dsimp only); first | omega | exact fun h => h) (fun i h => by (try dsimp only); first | omega | exact fun h => h) (fun i k h => by (try dsimp only); first | omega | exact fun h => h) (fun i h => by (try dsimp only); first | omega | exact fun h => h) (fun k h => by unfold wu_iG at h; (try dsimp only); first | omega | exact fun h => h) (fun i h => by unfold wu_iB at h; (try dsimp only); first | omega | exact fun h => h)
  exact ⟨an, lc, wu_endSC sc fr (fun i k h => by (try dsimp only); first | omega | exact fun h => h) (fun i h => by (try dsimp only); first | omega | exact fun h => h), si⟩
set_option maxHeartbeats 4000000 in
theorem wa2_apart (n : Nat) (hn : 4294967297 < n) {σ : wt_St} (x1 : Int32) (v : wt_IV σ) (j : wu_RM σ) : wt_H (wp_ap_apart n x1 σ) (fun q => wt_H (wp_md_apart n x1 q.2.2) (fun r => ((q.1 = 2 ∧ wt_gf r.2 108 0 = 1) ∨ (q.1 = 0 ∧ wt_gf r.2 108 0 = 0 ∧ q.2.1 = r.1)) ∧ wu_RM r.2)) := by
  intro q hq r hr
  obtain ⟨q', hq', hfq⟩ := wq_ap_apart n hn x1 σ
  rw [hq] at hq'
  cases hq'
  have fq := hfq.1
  have v2 : wt_IV q.2.2 := wt_IV_cls v fq (fun k => (by (try dsimp only); first | omega | exact fun h => h | (intros; omega) | decide)) (fun i hi => (by (try dsimp only); first | omega | exact fun h => h | (intros; omega) | decide))
  obtain ⟨r', hr', hfr⟩ := wq_md_apart n hn x1 q.2.2 v2.1
  rw [hr] at hr'
  cases hr'
  have fr := hfr.1
  have rr : wt_RI r.2 := hfr.2
  obtain ⟨lcm, scm, sim⟩ := wu_midM j v.1 fq (fun k => by (try dsimp only); first | omega | exact fun h => h) (fun i h => by (try dsimp only); first | omega | exact fun h => h)
  obtain ⟨an, sc⟩ := wr_apart n hn v2 scm q r hq hr
  obtain ⟨lc, si⟩ := wu_LI_fr v.1 v2.1 j fq fr (fun i k h => by unfold wu_iF at h; (try dsimp only); first | omega | exact fun h => h) (fun i h => by unfold wu_iA at h; (try dsimp only); first | omega | exact fun h => h) (fun k => by (try dsimp only); first | omega | exact fun h => h) (fun i h => by (try dsimp only); first | omega | exact fun h => h) (fun i k h => by (try dsimp only); first | omega | exact fun h => h) (fun i h => by (try dsimp only); first | omega | exact fun h => h) (fun k h => by unfold wu_iG at h; (try dsimp only); first | omega | exact fun h => h) (fun i h => by unfold wu_iB at h; (try dsimp only); first | omega | exact fun h => h)
  exact ⟨an, lc, wu_endSC sc fr (fun i k h => by (try dsimp only); first | omega | exact fun h => h) (fun i h => by (try dsimp only); first | omega | exact fun h => h), si⟩
set_option maxHeartbeats 4000000 in
theorem wa2_forget (n : Nat) (hn : 4294967297 < n) {σ : wt_St} (v : wt_IV σ) (j : wu_RM σ) : wt_H (wp_ap_forget n σ) (fun q => wt_H (wp_md_forget n q.2) (fun r => q.1 = r.1 ∧ wu_RM r.2)) := by
  intro q hq r hr
  obtain ⟨q', hq', hfq⟩ := wq_ap_forget n hn σ
  rw [hq] at hq'
  cases hq'
  have fq := hfq
  have v2 : wt_IV q.2 := wt_IV_cls v fq (fun k => (by (try dsimp only); first | omega | exact fun h => h | (intros; omega) | decide)) (fun i hi => (by (try dsimp only); first | omega | exact fun h => h | (intros; omega) | decide))
  obtain ⟨r', hr', hfr⟩ := wq_md_forget n hn q.2 v2.1
  rw [hr] at hr'
  cases hr'
  have fr := hfr.1
  have rr : wt_RI r.2 := hfr.2
  obtain ⟨lcm, scm, sim⟩ := wu_midM j v.1 fq (fun k => by (try dsimp only); first | omega | exact fun h => h) (fun i h => by (try dsimp only); first | omega | exact fun h => h)
  obtain ⟨an, sc⟩ := wr_forget n scm q r hq hr
  obtain ⟨lc, si⟩ := wu_LI_fr v.1 v2.1 j fq fr (fun i k h => by unfold wu_iF at h; (try dsimp only); first | omega | exact fun h => h) (fun i h => by unfold wu_iA at h; (try dsimp only); first | omega | exact fun h => h) (fun k => by (try dsimp only); first | omega | exact fun h => h) (fun i h => by (try dsimp only); first | omega | exact fun h => h) (fun i k h => by (try dsimp only); first | omega | exact fun h => h) (fun i h => by (try dsimp only); first | omega | exact fun h => h) (fun k h => by unfold wu_iG at h; (try dsimp only); first | omega | exact fun h => h) (fun i h => by unfold wu_iB at h; (try dsimp only); first | omega | exact fun h => h)
  exact ⟨an, lc, wu_endSC sc fr (fun i k h => by (try dsimp only); first | omega | exact fun h => h) (fun i h => by (try dsimp only); first | omega | exact fun h => h), si⟩
set_option maxHeartbeats 4000000 in
theorem wk2_kase (n : Nat) (hn : 4294967297 < n) {σ : wt_St} (x1 : Int32) (v : wt_IV σ) (ti : (wt_gf σ 1 2).toInt = (wt_gf σ 108 1).toInt) (jt : wt_JT σ) (j : wu_RM σ) : wt_H (wp_ap_kase n x1 σ) (fun q => wt_H (wp_md_kase n x1 q.2.2) (fun r => wu_RM r.2)) := by
  intro q hq r hr
  obtain ⟨q', hq', hfq⟩ := wq_ap_kase n hn x1 σ
  rw [hq] at hq'
  cases hq'
  have fq := hfq.1
  have v2 : wt_IV q.2.2 := wt_IV_cls v fq (fun k => (by (try dsimp only); first | omega | exact fun h => h | (intros; omega) | decide)) (fun i hi => (by (try dsimp only); first | omega | exact fun h => h | (intros; omega) | decide))
  obtain ⟨r', hr', hfr⟩ := wq_md_kase n hn x1 q.2.2 v2.1 v2.2.1
  rw [hr] at hr'
  cases hr'
  have fr := hfr.1
  have rr : wt_RI r.2 := hfr.2.1
  obtain ⟨lcm, scm, sim⟩ := wu_midM j v.1 fq (fun k => by (try dsimp only); first | omega | exact fun h => h) (fun i h => by (try dsimp only); first | omega | exact fun h => h)
  have tb : wt_TB σ q.2.2 := ⟨fun i hi => by rw [fq.2 109 (by (try dsimp only); omega)]; exact jt i hi, wt_eqI (by rw [fq.1 108 1 (by (try dsimp only); omega)]; exact ti)⟩
  obtain ⟨-, a, b, c⟩ := wr_kaseR n hn v2 tb lcm scm sim q r hq hr
  exact ⟨wu_endLC a fr (fun i k h => by (try dsimp only); first | omega | exact fun h => h) (fun i h => by (try dsimp only); first | omega | exact fun h => h), wu_endSC b fr (fun i k h => by (try dsimp only); first | omega | exact fun h => h) (fun i h => by (try dsimp only); first | omega | exact fun h => h), wu_endSI c rr fr (fun i k h => by (try dsimp only); first | omega | exact fun h => h) (fun i h => by (try dsimp only); first | omega | exact fun h => h)⟩
set_option maxHeartbeats 4000000 in
theorem wk2_tongue (n : Nat) (hn : 4294967297 < n) {σ : wt_St} (x1 : Int32) (v : wt_IV σ) (ti : (wt_gf σ 1 2).toInt = (wt_gf σ 108 1).toInt) (jt : wt_JT σ) (j : wu_RM σ) : wt_H (wp_ap_tongue n x1 σ) (fun q => wt_H (wp_md_tongue n x1 q.2.2) (fun r => wu_RM r.2)) := by
  intro q hq r hr
  obtain ⟨q', hq', hfq⟩ := wq_ap_tongue n hn x1 σ
  rw [hq] at hq'
  cases hq'
  have fq := hfq.1
  have v2 : wt_IV q.2.2 := wt_IV_cls v fq (fun k => (by (try dsimp only); first | omega | exact fun h => h | (intros; omega) | decide)) (fun i hi => (by (try dsimp only); first | omega | exact fun h => h | (intros; omega) | decide))
  obtain ⟨r', hr', hfr⟩ := wq_md_tongue n hn x1 q.2.2 v2.1
  rw [hr] at hr'
  cases hr'
  have fr := hfr.1
  have rr : wt_RI r.2 := hfr.2.1
  obtain ⟨lcm, scm, sim⟩ := wu_midM j v.1 fq (fun k => by (try dsimp only); first | omega | exact fun h => h) (fun i h => by (try dsimp only); first | omega | exact fun h => h)
  have tb : wt_TB σ q.2.2 := ⟨fun i hi => by rw [fq.2 109 (by (try dsimp only); omega)]; exact jt i hi, wt_eqI (by rw [fq.1 108 1 (by (try dsimp only); omega)]; exact ti)⟩
  obtain ⟨a, b, c⟩ := wr_tongueR n hn v2 tb lcm scm sim q r hq hr
  exact ⟨wu_endLC a fr (fun i k h => by (try dsimp only); first | omega | exact fun h => h) (fun i h => by (try dsimp only); first | omega | exact fun h => h), wu_endSC b fr (fun i k h => by (try dsimp only); first | omega | exact fun h => h) (fun i h => by (try dsimp only); first | omega | exact fun h => h), wu_endSI c rr fr (fun i k h => by (try dsimp only); first | omega | exact fun h => h) (fun i h => by (try dsimp only); first | omega | exact fun h => h)⟩
set_option maxHeartbeats 4000000 in
theorem wk2_image (n : Nat) (hn : 4294967297 < n) {σ : wt_St} (v : wt_IV σ) (j : wu_RM σ) : wt_H (wp_ap_image n σ) (fun q => wt_H (wp_md_image n q.2) (fun r => wu_RM r.2)) := by
  intro q hq r hr
  obtain ⟨q', hq', hfq⟩ := wq_ap_image n hn σ
  rw [hq] at hq'
  cases hq'
  have fq := hfq
  have v2 : wt_IV q.2 := wt_IV_cls v fq (fun k => (by (try dsimp only); first | omega | exact fun h => h | (intros; omega) | decide)) (fun i hi => (by (try dsimp only); first | omega | exact fun h => h | (intros; omega) | decide))
  have fr := wf_md_image n hn v2 r hr
  have rr : wt_RI r.2 := (((wq_md_image n hn q.2 v2).h) r hr).1.1
  obtain ⟨lcm, scm, sim⟩ := wu_midM j v.1 fq (fun k => by (try dsimp only); first | omega | exact fun h => h) (fun i h => by (try dsimp only); first | omega | exact fun h => h)
  obtain ⟨-, sc, si⟩ := wr_image n hn v2 scm sim q r hq hr
  have lcq : wu_LC q.2 q.2 := wu_LC_fr j.1 fq fq (by (try dsimp only); first | omega | exact fun h => h) (fun i h => by (try dsimp only); first | omega | exact fun h => h) (by (try dsimp only); first | omega | exact fun h => h) (fun i h => by (try dsimp only); first | omega | exact fun h => h)
  have lc : wu_LC r.2 r.2 := wu_LC_fr lcq fr fr (by unfold wt_iF; omega) (fun i h => by unfold wt_iA; omega) (by unfold wt_iF; omega) (fun i h => by unfold wt_iA; omega)
  exact ⟨lc, wu_endSC sc fr (fun i k h => by unfold wt_iF; omega) (fun i h => by unfold wt_iA; omega), wu_endSI si rr fr (fun i k h => by unfold wt_iF; omega) (fun i h => by unfold wt_iA; omega)⟩
set_option maxHeartbeats 4000000 in
theorem wk2_restore (n : Nat) (hn : 4294967297 < n) {σ : wt_St} (v : wt_IV σ) (j : wu_RM σ) : wt_H (wp_ap_restore n σ) (fun q => wt_H (wp_md_restore n q.2) (fun r => wu_RM r.2)) := by
  intro q hq r hr
  obtain ⟨q', hq', hfq⟩ := wq_ap_restore n hn σ
  rw [hq] at hq'
  cases hq'
  have fq := hfq
  have v2 : wt_IV q.2 := wt_IV_cls v fq (fun k => (by (try dsimp only); first | omega | exact fun h => h | (intros; omega) | decide)) (fun i hi => (by (try dsimp only); first | omega | exact fun h => h | (intros; omega) | decide))
  have fr := wf_md_restore n hn v2 r hr
  have rr : wt_RI r.2 := (((wq_md_restore n hn q.2 v2).h) r hr).1.1
  obtain ⟨lcm, scm, sim⟩ := wu_midM j v.1 fq (fun k => by (try dsimp only); first | omega | exact fun h => h) (fun i h => by (try dsimp only); first | omega | exact fun h => h)
  obtain ⟨-, sc, si⟩ := wr_restore n hn v2 scm sim q r hq hr
  have lcq : wu_LC q.2 q.2 := wu_LC_fr j.1 fq fq (by (try dsimp only); first | omega | exact fun h => h) (fun i h => by (try dsimp only); first | omega | exact fun h => h) (by (try dsimp only); first | omega | exact fun h => h) (fun i h => by (try dsimp only); first | omega | exact fun h => h)
  have lc : wu_LC r.2 r.2 := wu_LC_fr lcq fr fr (by unfold wt_iF; omega) (fun i h => by unfold wt_iA; omega) (by unfold wt_iF; omega) (fun i h => by unfold wt_iA; omega)
  exact ⟨lc, wu_endSC sc fr (fun i k h => by unfold wt_iF; omega) (fun i h => by unfold wt_iA; omega), wu_endSI si rr fr (fun i k h => by unfold wt_iF; omega) (fun i h => by unfold wt_iA; omega)⟩
set_option maxHeartbeats 4000000 in
theorem wk2_text (n : Nat) (hn : 4294967297 < n) {σ : wt_St} (x1 : Int32) (v : wt_IV σ) (j : wu_RM σ) : wt_H (wp_ap_text n x1 σ) (fun q => wt_H (wp_md_text n x1 q.2.2) (fun r => wu_RM r.2)) := by
  intro q hq r hr
  obtain ⟨q', hq', hfq⟩ := wq_ap_text n hn x1 σ
  rw [hq] at hq'
  cases hq'
  have fq := hfq.1
  have v2 : wt_IV q.2.2 := wt_IV_cls v fq (fun k => by (try dsimp only); omega) (fun i hi => by (try dsimp only); omega)
  obtain ⟨r', hr', hfr⟩ := wq_md_text n hn x1 q.2.2 v2.1
  rw [hr] at hr'
  cases hr'
  have fr := hfr.1
  have x := wq_md_textH n hn x1 q.2.2 v2.1 r hr
  obtain ⟨a, b, c⟩ := j
  have g41 : 0 ≤ (wt_gf q.2.2 108 41).toInt ∧ (wt_gf q.2.2 108 41).toInt ≤ 3 := wt_Rf9 v2.1
  have g41' : 0 ≤ (wt_gf σ 108 41).toInt ∧ (wt_gf σ 108 41).toInt ≤ 3 := wt_Rf9 v.1
  have a1 : wu_LC q.2.2 q.2.2 := wu_LC_fr a fq fq (by (try dsimp only); omega) (fun i h => by (try dsimp only); omega) (by (try dsimp only); omega) (fun i h => by (try dsimp only); omega)
  have b1 : wu_SC q.2.2 q.2.2 := wu_SC_fr b fq fq (fun k hk => by (try dsimp only); omega) (fun k hk => by (try dsimp only); omega) (fun i p q => by (try dsimp only); omega) (fun i hi => by (try dsimp only); omega)
  have c1 : wu_SI q.2.2 q.2.2 := wu_SI_fr c fq fq g41'.2 (fun i k h => by (try dsimp only); omega) (fun k h => by (try dsimp only); omega) (fun i p q => by (try dsimp only); omega) (fun i h => by (try dsimp only); omega)
  refine ⟨wu_LC_fr a1 fr fr (by (try dsimp only); omega) (fun i h => by (try dsimp only); omega) (by (try dsimp only); omega) (fun i h => by (try dsimp only); omega), ?_, ?_⟩
  · exact wu_SC_eq b1 (fun i p q => fr.2 i (by (try dsimp only); omega)) (fun i hi => fr.2 i (by (try dsimp only); omega)) (fun k hk => fr.1 39 k (by (try dsimp only); omega)) (fun k hk => fr.1 108 k (by (try dsimp only); omega)) x.1
  · exact wu_SI_eq c1 (fr.1 0 14 (by (try dsimp only); omega)) (fr.1 108 41 (by (try dsimp only); omega)) (fun i p q => fr.2 i (by (try dsimp only); omega)) (fun i hi => ⟨fr.1 i 8 (by (try dsimp only); omega), fr.1 i 9 (by (try dsimp only); omega)⟩) (fun i p q => fr.2 i (by (try dsimp only); omega)) (fr.2 111 (by (try dsimp only); omega)) x.1 g41.2
