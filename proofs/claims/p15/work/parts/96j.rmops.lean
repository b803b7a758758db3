set_option maxHeartbeats 4000000 in
theorem wk2_feed (n : Nat) (hn : 4294967297 < n) {σ : wt_St} (x1 x2 x3 x4 x5 : Int32) (v : wt_IV σ) (j : wu_RM σ) : wt_H (wp_ap_feed n x1 x2 x3 x4 x5 σ) (fun q => wt_H (wp_md_feed n x1 x2 x3 x4 x5 q.2) (fun r => wu_RM r.2)) := by
  refine (wq_ap_feed n hn x1 x2 x3 x4 x5 σ).h.imp (fun q hq => ?_)
  have fq := hq.1
  have v2 : wt_IV q.2 := wt_IV_cls v fq (fun k => (by (try dsimp only); first | omega | exact fun h => h | (intros; omega) | decide)) (fun i hi => (by (try dsimp only); first | omega | exact fun h => h | (intros; omega) | decide))
  refine (wq_md_feed n hn x1 x2 x3 x4 x5 q.2 v2.1).h.imp (fun r hr => ?_)
  have fr := hr.1
  exact wu_RM_fr v.1 v2.1 j fq fr (fun i k h => by unfold wu_mF at h; (try dsimp only); first | omega | exact fun h => h) (fun i h => by unfold wu_mA at h; (try dsimp only); first | omega | exact fun h => h) (fun k => by (try dsimp only); first | omega | exact fun h => h) (fun i h => by (try dsimp only); first | omega | exact fun h => h) (fun i k h => by (try dsimp only); first | omega | exact fun h => h) (fun i h => by (try dsimp only); first | omega | exact fun h => h) (fun k h => by unfold wu_mG at h; (try dsimp only); first | omega | exact fun h => h) (fun i h => by unfold wu_mB at h; (try dsimp only); first | omega | exact fun h => h)
set_option maxHeartbeats 4000000 in
theorem wk2_fault (n : Nat) (hn : 4294967297 < n) {σ : wt_St} (v : wt_IV σ) (j : wu_RM σ) : wt_H (wp_ap_fault n σ) (fun q => wt_H (wp_md_fault n q.2) (fun r => wu_RM r.2)) := by
  refine (wq_ap_fault n hn σ).h.imp (fun q hq => ?_)
  have fq := (by rw [hq]; exact wt_fr.rf : wt_fr (fun _ _ => False) (fun _ => False) σ q.2)
  have v2 : wt_IV q.2 := wt_IV_cls v fq (fun k => (by (try dsimp only); first | omega | exact fun h => h | (intros; omega) | decide)) (fun i hi => (by (try dsimp only); first | omega | exact fun h => h | (intros; omega) | decide))
  refine (wq_md_fault n hn q.2 v2.1).h.imp (fun r hr => ?_)
  have fr := hr.1
  exact wu_RM_fr v.1 v2.1 j fq fr (fun i k h => by unfold wu_mF at h; (try dsimp only); first | omega | exact fun h => h) (fun i h => by unfold wu_mA at h; (try dsimp only); first | omega | exact fun h => h) (fun k => by (try dsimp only); first | omega | exact fun h => h) (fun i h => by (try dsimp only); first | omega | exact fun h => h) (fun i k h => by (try dsimp only); first | omega | exact fun h => h) (fun i h => by (try dsimp only); first | omega | exact fun h => h) (fun k h => by unfold wu_mG at h; (try dsimp only); first | omega | exact fun h => h) (fun i h => by unfold wu_mB at h; (try dsimp only); first | omega | exact fun h => h)
set_option maxHeartbeats 4000000 in
theorem wk2_told (n : Nat) (hn : 4294967297 < n) {σ : wt_St} (x1 : Int32) (v : wt_IV σ) (j : wu_RM σ) : wt_H (wp_ap_told n x1 σ) (fun q => wt_H (wp_md_told n x1 q.2.2) (fun r => wu_RM r.2)) := by
  refine (wq_ap_told n hn x1 σ).h.imp (fun q hq => ?_)
  have fq := (by rw [hq.1]; exact wt_fr.rf : wt_fr (fun _ _ => False) (fun _ => False) σ q.2.2)
  have v2 : wt_IV q.2.2 := wt_IV_cls v fq (fun k => (by (try dsimp only); first | omega | exact fun h => h | (intros; omega) | decide)) (fun i hi => (by (try dsimp only); first | omega | exact fun h => h | (intros; omega) | decide))
  refine (wq_md_told n hn x1 q.2.2 v2.1).h.imp (fun r hr => ?_)
  have fr := hr.1
  exact wu_RM_fr v.1 v2.1 j fq fr (fun i k h => by unfold wu_mF at h; (try dsimp only); first | omega | exact fun h => h) (fun i h => by unfold wu_mA at h; (try dsimp only); first | omega | exact fun h => h) (fun k => by (try dsimp only); first | omega | exact fun h => h) (fun i h => by (try dsimp only); first | omega | exact fun h => h) (fun i k h => by (try dsimp only); first | omega | exact fun h => h) (fun i h => by (try dsimp only); first | omega | exact fun h => h) (fun k h => by unfold wu_mG at h; (try dsimp only); first | omega | exact fun h => h) (fun i h => by unfold wu_mB at h; (try dsimp only); first | omega | exact fun h => h)
set_option maxHeartbeats 4000000 in
theorem wk2_letter (n : Nat) (hn : 4294967297 < n) {σ : wt_St} (x1 x2 : Int32) (v : wt_IV σ) (j : wu_RM σ) : wt_H (wp_ap_letter n x1 x2 σ) (fun q => wt_H (wp_md_letter n x1 x2 q.2.2) (fun r => wu_RM r.2)) := by
  refine (wq_ap_letter n hn x1 x2 σ).h.imp (fun q hq => ?_)
  have fq := (by rw [hq.1]; exact wt_fr.rf : wt_fr (fun _ _ => False) (fun _ => False) σ q.2.2)
  have v2 : wt_IV q.2.2 := wt_IV_cls v fq (fun k => (by (try dsimp only); first | omega | exact fun h => h | (intros; omega) | decide)) (fun i hi => (by (try dsimp only); first | omega | exact fun h => h | (intros; omega) | decide))
  refine (wq_md_letter n hn x1 x2 q.2.2 v2.1).h.imp (fun r hr => ?_)
  have fr := hr.1
  exact wu_RM_fr v.1 v2.1 j fq fr (fun i k h => by unfold wu_mF at h; (try dsimp only); first | omega | exact fun h => h) (fun i h => by unfold wu_mA at h; (try dsimp only); first | omega | exact fun h => h) (fun k => by (try dsimp only); first | omega | exact fun h => h) (fun i h => by (try dsimp only); first | omega | exact fun h => h) (fun i k h => by (try dsimp only); first | omega | exact fun h => h) (fun i h => by (try dsimp only); first | omega | exact fun h => h) (fun k h => by unfold wu_mG at h; (try dsimp only); first | omega | exact fun h => h) (fun i h => by unfold wu_mB at h; (try dsimp only); first | omega | exact fun h => h)
set_option maxHeartbeats 4000000 in
theorem wk2_piece (n : Nat) (hn : 4294967297 < n) {σ : wt_St} (x1 x2 x3 : Int32) (v : wt_IV σ) (j : wu_RM σ) : wt_H (wp_ap_piece n x1 x2 x3 σ) (fun q => wt_H (wp_md_piece n x1 x2 x3 q.2.2) (fun r => wu_RM r.2)) := by
  refine (wq_ap_piece n hn x1 x2 x3 σ).h.imp (fun q hq => ?_)
  have fq := (by rw [hq.1]; exact wt_fr.rf : wt_fr (fun _ _ => False) (fun _ => False) σ q.2.2)
  have v2 : wt_IV q.2.2 := wt_IV_cls v fq (fun k => (by (try dsimp only); first | omega | exact fun h => h | (intros; omega) | decide)) (fun i hi => (by (try dsimp only); first | omega | exact fun h => h | (intros; omega) | decide))
  refine (wq_md_piece n hn x1 x2 x3 q.2.2 v2.1).h.imp (fun r hr => ?_)
  have fr := hr.1
  exact wu_RM_fr v.1 v2.1 j fq fr (fun i k h => by unfold wu_mF at h; (try dsimp only); first | omega | exact fun h => h) (fun i h => by unfold wu_mA at h; (try dsimp only); first | omega | exact fun h => h) (fun k => by (try dsimp only); first | omega | exact fun h => h) (fun i h => by (try dsimp only); first | omega | exact fun h => h) (fun i k h => by (try dsimp only); first | omega | exact fun h => h) (fun i h => by (try dsimp only); first | omega | exact fun h => h) (fun k h => by unfold wu_mG at h; (try dsimp only); first | omega | exact fun h => h) (fun i h => by unfold wu_mB at h; (try dsimp only); first | omega | exact fun h => h)
set_option maxHeartbeats 4000000 in
theorem wk2_word (n : Nat) (hn : 4294967297 < n) {σ : wt_St} (x1 x2 : Int32) (v : wt_IV σ) (j : wu_RM σ) : wt_H (wp_ap_word n x1 x2 σ) (fun q => wt_H (wp_md_word n x1 x2 q.2.2) (fun r => wu_RM r.2)) := by
  refine (wq_ap_word n hn x1 x2 σ).h.imp (fun q hq => ?_)
  have fq := hq.1
  have v2 : wt_IV q.2.2 := wt_IV_cls v fq (fun k => (by (try dsimp only); first | omega | exact fun h => h | (intros; omega) | decide)) (fun i hi => (by (try dsimp only); first | omega | exact fun h => h | (intros; omega) | decide))
  refine (wq_md_word n hn x1 x2 q.2.2 v2.1).h.imp (fun r hr => ?_)
  have fr := hr.1
  exact wu_RM_fr v.1 v2.1 j fq fr (fun i k h => by unfold wu_mF at h; (try dsimp only); first | omega | exact fun h => h) (fun i h => by unfold wu_mA at h; (try dsimp only); first | omega | exact fun h => h) (fun k => by (try dsimp only); first | omega | exact fun h => h) (fun i h => by (try dsimp only); first | omega | exact fun h => h) (fun i k h => by (try dsimp only); first | omega | exact fun h => h) (fun i h => by (try dsimp only); first | omega | exact fun h => h) (fun k h => by unfold wu_mG at h; (try dsimp only); first | omega | exact fun h => h) (fun i h => by unfold wu_mB at h; (try dsimp only); first | omega | exact fun h => h)
set_option maxHeartbeats 4000000 in
theorem wk2_at (n : Nat) (hn : 4294967297 < n) {σ : wt_St} (x1 x2 : Int32) (v : wt_IV σ) (j : wu_RM σ) : wt_H (wp_ap_at n x1 x2 σ) (fun q => wt_H (wp_md_at n x1 x2 q.2.2) (fun r => wu_RM r.2)) := by
  refine (wq_ap_at n hn x1 x2 σ).h.imp (fun q hq => ?_)
  have fq := (by rw [hq.1]; exact wt_fr.rf : wt_fr (fun _ _ => False) (fun _ => False) σ q.2.2)
  have v2 : wt_IV q.2.2 := wt_IV_cls v fq (fun k => (by (try dsimp only); first | omega | exact fun h => h | (intros; omega) | decide)) (fun i hi => (by (try dsimp only); first | omega | exact fun h => h | (intros; omega) | decide))
  refine (wq_md_at n hn x1 x2 q.2.2 v2.1).h.imp (fun r hr => ?_)
  have fr := hr.1
  exact wu_RM_fr v.1 v2.1 j fq fr (fun i k h => by unfold wu_mF at h; (try dsimp only); first | omega | exact fun h => h) (fun i h => by unfold wu_mA at h; (try dsimp only); first | omega | exact fun h => h) (fun k => by (try dsimp only); first | omega | exact fun h => h) (fun i h => by (try dsimp only); first | omega | exact fun h => h) (fun i k h => by (try dsimp only); first | omega | exact fun h => h) (fun i h => by (try dsimp only); first | omega | exact fun h => h) (fun k h => by unfold wu_mG at h; (try dsimp only); first | omega | exact fun h => h) (fun i h => by unfold wu_mB at h; (try dsimp only); first | omega | exact fun h => h)
set_option maxHeartbeats 4000000 in
theorem wk2_needs (n : Nat) (hn : 4294967297 < n) {σ : wt_St} (x1 x2 : Int32) (v : wt_IV σ) (j : wu_RM σ) : wt_H (wp_ap_needs n x1 x2 σ) (fun q => wt_H (wp_md_needs n x1 x2 q.2.2) (fun r => wu_RM r.2)) := by
  refine (wq_ap_needs n hn x1 x2 σ).h.imp (fun q hq => ?_)
  have fq := (by rw [hq.1]; exact wt_fr.rf : wt_fr (fun _ _ => False) (fun _ => False) σ q.2.2)
  have v2 : wt_IV q.2.2 := wt_IV_cls v fq (fun k => (by (try dsimp only); first | omega | exact fun h => h | (intros; omega) | decide)) (fun i hi => (by (try dsimp only); first | omega | exact fun h => h | (intros; omega) | decide))
  refine (wq_md_needs n hn x1 x2 q.2.2 v2.1).h.imp (fun r hr => ?_)
  have fr := hr.1
  exact wu_RM_fr v.1 v2.1 j fq fr (fun i k h => by unfold wu_mF at h; (try dsimp only); first | omega | exact fun h => h) (fun i h => by unfold wu_mA at h; (try dsimp only); first | omega | exact fun h => h) (fun k => by (try dsimp only); first | omega | exact fun h => h) (fun i h => by (try dsimp only); first | omega | exact fun h => h) (fun i k h => by (try dsimp only); first | omega | exact fun h => h) (fun i h => by (try dsimp only); first | omega | exact fun h => h) (fun k h => by unfold wu_mG at h; (try dsimp only); first | omega | exact fun h => h) (fun i h => by unfold wu_mB at h; (try dsimp only); first | omega | exact fun h => h)
set_option maxHeartbeats 4000000 in
theorem wk2_can (n : Nat) (hn : 4294967297 < n) {σ : wt_St} (x1 : Int32) (v : wt_IV σ) (j : wu_RM σ) : wt_H (wp_ap_can n x1 σ) (fun q => wt_H (wp_md_can n x1 q.2.2) (fun r => wu_RM r.2)) := by
  refine (wq_ap_can n hn x1 σ).h.imp (fun q hq => ?_)
  have fq := hq.1
  have v2 : wt_IV q.2.2 := wt_IV_cls v fq (fun k => (by (try dsimp only); first | omega | exact fun h => h | (intros; omega) | decide)) (fun i hi => (by (try dsimp only); first | omega | exact fun h => h | (intros; omega) | decide))
  refine (wq_md_can n hn x1 q.2.2 v2.1).h.imp (fun r hr => ?_)
  have fr := hr.1
  exact wu_RM_fr v.1 v2.1 j fq fr (fun i k h => by unfold wu_mF at h; (try dsimp only); first | omega | exact fun h => h) (fun i h => by unfold wu_mA at h; (try dsimp only); first | omega | exact fun h => h) (fun k => by (try dsimp only); first | omega | exact fun h => h) (fun i h => by (try dsimp only); first | omega | exact fun h => h) (fun i k h => by (try dsimp only); first | omega | exact fun h => h) (fun i h => by (try dsimp only); first | omega | exact fun h => h) (fun k h => by unfold wu_mG at h; (try dsimp only); first | omega | exact fun h => h) (fun i h => by unfold wu_mB at h; (try dsimp only); first | omega | exact fun h => h)
set_option maxHeartbeats 4000000 in
theorem wk2_lacks (n : Nat) (hn : 4294967297 < n) {σ : wt_St} (x1 x2 : Int32) (v : wt_IV σ) (j : wu_RM σ) : wt_H (wp_ap_lacks n x1 x2 σ) (fun q => wt_H (wp_md_lacks n x1 x2 q.2.2) (fun r => wu_RM r.2)) := by
  refine (wq_ap_lacks n hn x1 x2 σ).h.imp (fun q hq => ?_)
  have fq := hq.1
  have v2 : wt_IV q.2.2 := wt_IV_cls v fq (fun k => (by (try dsimp only); first | omega | exact fun h => h | (intros; omega) | decide)) (fun i hi => (by (try dsimp only); first | omega | exact fun h => h | (intros; omega) | decide))
  refine (wq_md_lacks n hn x1 x2 q.2.2 v2.1).h.imp (fun r hr => ?_)
  have fr := hr.1
  exact wu_RM_fr v.1 v2.1 j fq fr (fun i k h => by unfold wu_mF at h; (try dsimp only); first | omega | exact fun h => h) (fun i h => by unfold wu_mA at h; (try dsimp only); first | omega | exact fun h => h) (fun k => by (try dsimp only); first | omega | exact fun h => h) (fun i h => by (try dsimp only); first | omega | exact fun h => h) (fun i k h => by (try dsimp only); first | omega | exact fun h => h) (fun i h => by (try dsimp only); first | omega | exact fun h => h) (fun k h => by unfold wu_mG at h; (try dsimp only); first | omega | exact fun h => h) (fun i h => by unfold wu_mB at h; (try dsimp only); first | omega | exact fun h => h)
set_option maxHeartbeats 4000000 in
theorem wk2_page (n : Nat) (hn : 4294967297 < n) {σ : wt_St} (x1 x2 : Int32) (v : wt_IV σ) (j : wu_RM σ) : wt_H (wp_ap_page n x1 x2 σ) (fun q => wt_H (wp_md_page n x1 x2 q.2.2) (fun r => wu_RM r.2)) := by
  refine (wq_ap_page n hn x1 x2 σ).h.imp (fun q hq => ?_)
  have fq := hq.1
  have v2 : wt_IV q.2.2 := wt_IV_cls v fq (fun k => (by (try dsimp only); first | omega | exact fun h => h | (intros; omega) | decide)) (fun i hi => (by (try dsimp only); first | omega | exact fun h => h | (intros; omega) | decide))
  refine (wq_md_page n hn x1 x2 q.2.2 v2.1 v2.2.2.1).h.imp (fun r hr => ?_)
  have fr := hr.1
  exact wu_RM_fr v.1 v2.1 j fq fr (fun i k h => by unfold wu_mF at h; (try dsimp only); first | omega | exact fun h => h) (fun i h => by unfold wu_mA at h; (try dsimp only); first | omega | exact fun h => h) (fun k => by (try dsimp only); first | omega | exact fun h => h) (fun i h => by (try dsimp only); first | omega | exact fun h => h) (fun i k h => by (try dsimp only); first | omega | exact fun h => h) (fun i h => by (try dsimp only); first | omega | exact fun h => h) (fun k h => by unfold wu_mG at h; (try dsimp only); first | omega | exact fun h => h) (fun i h => by unfold wu_mB at h; (try dsimp only); first | omega | exact fun h => h)
set_option maxHeartbeats 4000000 in
theorem wk2_read (n : Nat) (hn : 4294967297 < n) {σ : wt_St} (x1 x2 : Int32) (v : wt_IV σ) (j : wu_RM σ) : wt_H (wp_ap_read n x1 x2 σ) (fun q => wt_H (wp_md_read n x1 x2 q.2.2) (fun r => wu_RM r.2)) := by
  refine (wq_ap_read n hn x1 x2 σ).h.imp (fun q hq => ?_)
  have fq := hq.1
  have v2 : wt_IV q.2.2 := wt_IV_cls v fq (fun k => (by (try dsimp only); first | omega | exact fun h => h | (intros; omega) | decide)) (fun i hi => (by (try dsimp only); first | omega | exact fun h => h | (intros; omega) | decide))
  refine (wq_md_read n hn x1 x2 q.2.2 v2.1 v2.2.2.1).h.imp (fun r hr => ?_)
  have fr := hr.1
  exact wu_RM_fr v.1 v2.1 j fq fr (fun i k h => by unfold wu_mF at h; (try dsimp only); first | omega | exact fun h => h) (fun i h => by unfold wu_mA at h; (try dsimp only); first | omega | exact fun h => h) (fun k => by (try dsimp only); first | omega | exact fun h => h) (fun i h => by (try dsimp only); first | omega | exact fun h => h) (fun i k h => by (try dsimp only); first | omega | exact fun h => h) (fun i h => by (try dsimp only); first | omega | exact fun h => h) (fun k h => by unfold wu_mG at h; (try dsimp only); first | omega | exact fun h => h) (fun i h => by unfold wu_mB at h; (try dsimp only); first | omega | exact fun h => h)
set_option maxHeartbeats 4000000 in
theorem wk2_least (n : Nat) (hn : 4294967297 < n) {σ : wt_St} (x1 x2 x3 : Int32) (v : wt_IV σ) (j : wu_RM σ) : wt_H (wp_ap_least n x1 x2 x3 σ) (fun q => wt_H (wp_md_least n x1 x2 x3 q.2.2) (fun r => wu_RM r.2)) := by
  refine (wq_ap_least n hn x1 x2 x3 σ).h.imp (fun q hq => ?_)
  have fq := hq.1
  have v2 : wt_IV q.2.2 := wt_IV_cls v fq (fun k => (by (try dsimp only); first | omega | exact fun h => h | (intros; omega) | decide)) (fun i hi => (by (try dsimp only); first | omega | exact fun h => h | (intros; omega) | decide))
  refine (wq_md_least n hn x1 x2 x3 q.2.2 v2.1).h.imp (fun r hr => ?_)
  have fr := hr.1
  exact wu_RM_fr v.1 v2.1 j fq fr (fun i k h => by unfold wu_mF at h; (try dsimp only); first | omega | exact fun h => h) (fun i h => by unfold wu_mA at h; (try dsimp only); first | omega | exact fun h => h) (fun k => by (try dsimp only); first | omega | exact fun h => h) (fun i h => by (try dsimp only); first | omega | exact fun h => h) (fun i k h => by (try dsimp only); first | omega | exact fun h => h) (fun i h => by (try dsimp only); first | omega | exact fun h => h) (fun k h => by unfold wu_mG at h; (try dsimp only); first | omega | exact fun h => h) (fun i h => by unfold wu_mB at h; (try dsimp only); first | omega | exact fun h => h)
set_option maxHeartbeats 4000000 in
theorem wk2_fitting (n : Nat) (hn : 4294967297 < n) {σ : wt_St} (x1 x2 x3 x4 : Int32) (v : wt_IV σ) (j : wu_RM σ) : wt_H (wp_ap_fitting n x1 x2 x3 x4 σ) (fun q => wt_H (wp_md_fitting n x1 x2 x3 x4 q.2.2) (fun r => wu_RM r.2)) := by
  refine (wq_ap_fitting n hn x1 x2 x3 x4 σ).h.imp (fun q hq => ?_)
  have fq := hq.1
  have v2 : wt_IV q.2.2 := wt_IV_cls v fq (fun k => (by (try dsimp only); first | omega | exact fun h => h | (intros; omega) | decide)) (fun i hi => (by (try dsimp only); first | omega | exact fun h => h | (intros; omega) | decide))
  refine (wq_md_fitting n hn x1 x2 x3 x4 q.2.2 v2.1).h.imp (fun r hr => ?_)
  have fr := hr.1
  exact wu_RM_fr v.1 v2.1 j fq fr (fun i k h => by unfold wu_mF at h; (try dsimp only); first | omega | exact fun h => h) (fun i h => by unfold wu_mA at h; (try dsimp only); first | omega | exact fun h => h) (fun k => by (try dsimp only); first | omega | exact fun h => h) (fun i h => by (try dsimp only); first | omega | exact fun h => h) (fun i k h => by (try dsimp only); first | omega | exact fun h => h) (fun i h => by (try dsimp only); first | omega | exact fun h => h) (fun k h => by unfold wu_mG at h; (try dsimp only); first | omega | exact fun h => h) (fun i h => by unfold wu_mB at h; (try dsimp only); first | omega | exact fun h => h)
set_option maxHeartbeats 4000000 in
theorem wk2_wordings (n : Nat) (hn : 4294967297 < n) {σ : wt_St} (x1 : Int32) (v : wt_IV σ) (j : wu_RM σ) : wt_H (wp_ap_wordings n x1 σ) (fun q => wt_H (wp_md_wordings n x1 q.2.2) (fun r => wu_RM r.2)) := by
  refine (wq_ap_wordings n hn x1 σ).h.imp (fun q hq => ?_)
  have fq := hq.1
  have v2 : wt_IV q.2.2 := wt_IV_cls v fq (fun k => (by (try dsimp only); first | omega | exact fun h => h | (intros; omega) | decide)) (fun i hi => (by (try dsimp only); first | omega | exact fun h => h | (intros; omega) | decide))
  refine (wq_md_wordings n hn x1 q.2.2 v2.1).h.imp (fun r hr => ?_)
  have fr := hr.1
  exact wu_RM_fr v.1 v2.1 j fq fr (fun i k h => by unfold wu_mF at h; (try dsimp only); first | omega | exact fun h => h) (fun i h => by unfold wu_mA at h; (try dsimp only); first | omega | exact fun h => h) (fun k => by (try dsimp only); first | omega | exact fun h => h) (fun i h => by (try dsimp only); first | omega | exact fun h => h) (fun i k h => by (try dsimp only); first | omega | exact fun h => h) (fun i h => by (try dsimp only); first | omega | exact fun h => h) (fun k h => by unfold wu_mG at h; (try dsimp only); first | omega | exact fun h => h) (fun i h => by unfold wu_mB at h; (try dsimp only); first | omega | exact fun h => h)
set_option maxHeartbeats 4000000 in
theorem wk2_bound (n : Nat) (hn : 4294967297 < n) {σ : wt_St} (v : wt_IV σ) (j : wu_RM σ) : wt_H (wp_ap_bound n σ) (fun q => wt_H (wp_md_bound n q.2) (fun r => wu_RM r.2)) := by
  refine (wq_ap_bound n hn σ).h.imp (fun q hq => ?_)
  have fq := (by rw [hq]; exact wt_fr.rf : wt_fr (fun _ _ => False) (fun _ => False) σ q.2)
  have v2 : wt_IV q.2 := wt_IV_cls v fq (fun k => (by (try dsimp only); first | omega | exact fun h => h | (intros; omega) | decide)) (fun i hi => (by (try dsimp only); first | omega | exact fun h => h | (intros; omega) | decide))
  refine (wq_md_bound n hn q.2 v2.1).h.imp (fun r hr => ?_)
  have fr := hr.1
  exact wu_RM_fr v.1 v2.1 j fq fr (fun i k h => by unfold wu_mF at h; (try dsimp only); first | omega | exact fun h => h) (fun i h => by unfold wu_mA at h; (try dsimp only); first | omega | exact fun h => h) (fun k => by (try dsimp only); first | omega | exact fun h => h) (fun i h => by (try dsimp only); first | omega | exact fun h => h) (fun i k h => by (try dsimp only); first | omega | exact fun h => h) (fun i h => by (try dsimp only); first | omega | exact fun h => h) (fun k h => by unfold wu_mG at h; (try dsimp only); first | omega | exact fun h => h) (fun i h => by unfold wu_mB at h; (try dsimp only); first | omega | exact fun h => h)
set_option maxHeartbeats 4000000 in
theorem wk2_count (n : Nat) (hn : 4294967297 < n) {σ : wt_St} (x1 : Int32) (v : wt_IV σ) (j : wu_RM σ) : wt_H (wp_ap_count n x1 σ) (fun q => wt_H (wp_md_count n x1 q.2) (fun r => wu_RM r.2)) := by
  refine (wq_ap_count n hn x1 σ).h.imp (fun q hq => ?_)
  have fq := (by rw [hq]; exact wt_fr.rf : wt_fr (fun _ _ => False) (fun _ => False) σ q.2)
  have v2 : wt_IV q.2 := wt_IV_cls v fq (fun k => (by (try dsimp only); first | omega | exact fun h => h | (intros; omega) | decide)) (fun i hi => (by (try dsimp only); first | omega | exact fun h => h | (intros; omega) | decide))
  refine (wq_md_count n hn x1 q.2 v2.1).h.imp (fun r hr => ?_)
  have fr := hr.1
  exact wu_RM_fr v.1 v2.1 j fq fr (fun i k h => by unfold wu_mF at h; (try dsimp only); first | omega | exact fun h => h) (fun i h => by unfold wu_mA at h; (try dsimp only); first | omega | exact fun h => h) (fun k => by (try dsimp only); first | omega | exact fun h => h) (fun i h => by (try dsimp only); first | omega | exact fun h => h) (fun i k h => by (try dsimp only); first | omega | exact fun h => h) (fun i h => by (try dsimp only); first | omega | exact fun h => h) (fun k h => by unfold wu_mG at h; (try dsimp only); first | omega | exact fun h => h) (fun i h => by unfold wu_mB at h; (try dsimp only); first | omega | exact fun h => h)
set_option maxHeartbeats 4000000 in
theorem wk2_most (n : Nat) (hn : 4294967297 < n) {σ : wt_St} (x1 : Int32) (v : wt_IV σ) (j : wu_RM σ) : wt_H (wp_ap_most n x1 σ) (fun q => wt_H (wp_md_most n x1 q.2.2) (fun r => wu_RM r.2)) := by
  refine (wq_ap_most n hn x1 σ).h.imp (fun q hq => ?_)
  have fq := hq.1
  have v2 : wt_IV q.2.2 := wt_IV_cls v fq (fun k => (by (try dsimp only); first | omega | exact fun h => h | (intros; omega) | decide)) (fun i hi => (by (try dsimp only); first | omega | exact fun h => h | (intros; omega) | decide))
  refine (wt_H_and (wh_mostR n hn v2.1) (wq_md_most n hn x1 q.2.2 v2.1).h).imp (fun r hr0 => ?_)
  have hr := hr0.2
  have fr := hr.1
  have kv : wu_KV q.2.2 r.2 := wu_KV_KE v2.2.1 (fr.2 111 (by (try dsimp only); first | omega | exact fun h => h)) hr0.1
  exact wu_RM_kv v.1 v2.1 j fq fr kv (fun i k h => by unfold wu_mF at h; (try dsimp only); first | omega | exact fun h => h) (fun i h => by unfold wu_mA at h; (try dsimp only); first | omega | exact fun h => h) (fun k => by (try dsimp only); first | omega | exact fun h => h) (fun i h => by (try dsimp only); first | omega | exact fun h => h) (fun i k h => by (try dsimp only); first | omega | exact fun h => h) (fun i h => by (try dsimp only); first | omega | exact fun h => h) (fun k h => by unfold wu_mG at h; (try dsimp only); first | omega | exact fun h => h) (fun i h h9 => by unfold wu_mB at h; (try dsimp only); first | omega | exact fun h => h)
set_option maxHeartbeats 4000000 in
theorem wk2_greedy (n : Nat) (hn : 4294967297 < n) {σ : wt_St} (x1 : Int32) (v : wt_IV σ) (j : wu_RM σ) : wt_H (wp_ap_greedy n x1 σ) (fun q => wt_H (wp_md_greedy n x1 q.2.2) (fun r => wu_RM r.2)) := by
  refine (wq_ap_greedy n hn x1 σ).h.imp (fun q hq => ?_)
  have fq := hq.1
  have v2 : wt_IV q.2.2 := wt_IV_cls v fq (fun k => (by (try dsimp only); first | omega | exact fun h => h | (intros; omega) | decide)) (fun i hi => (by (try dsimp only); first | omega | exact fun h => h | (intros; omega) | decide))
  refine (wt_H_and (wh_greedyR n hn v2.1) (wq_md_greedy n hn x1 q.2.2 v2.1).h).imp (fun r hr0 => ?_)
  have hr := hr0.2
  have fr := hr.1
  have kv : wu_KV q.2.2 r.2 := wu_KV_KE v2.2.1 (fr.2 111 (by (try dsimp only); first | omega | exact fun h => h)) hr0.1
  exact wu_RM_kv v.1 v2.1 j fq fr kv (fun i k h => by unfold wu_mF at h; (try dsimp only); first | omega | exact fun h => h) (fun i h => by unfold wu_mA at h; (try dsimp only); first | omega | exact fun h => h) (fun k => by (try dsimp only); first | omega | exact fun h => h) (fun i h => by (try dsimp only); first | omega | exact fun h => h) (fun i k h => by (try dsimp only); first | omega | exact fun h => h) (fun i h => by (try dsimp only); first | omega | exact fun h => h) (fun k h => by unfold wu_mG at h; (try dsimp only); first | omega | exact fun h => h) (fun i h h9 => by unfold wu_mB at h; (try dsimp only); first | omega | exact fun h => h)
set_option maxHeartbeats 4000000 in
theorem wk2_said (n : Nat) (hn : 4294967297 < n) {σ : wt_St} (x1 x2 : Int32) (v : wt_IV σ) (j : wu_RM σ) : wt_H (wp_ap_said n x1 x2 σ) (fun q => wt_H (wp_md_said n x1 x2 q.2.2) (fun r => wu_RM r.2)) := by
  refine (wq_ap_said n hn x1 x2 σ).h.imp (fun q hq => ?_)
  have fq := hq.1
  have v2 : wt_IV q.2.2 := wt_IV_cls v fq (fun k => (by (try dsimp only); first | omega | exact fun h => h | (intros; omega) | decide)) (fun i hi => (by (try dsimp only); first | omega | exact fun h => h | (intros; omega) | decide))
  refine (wt_H_and (wh_saidR n hn v2.1) (wq_md_said n hn x1 x2 q.2.2 v2.1).h).imp (fun r hr0 => ?_)
  have hr := hr0.2
  have fr := hr.1
  have kv : wu_KV q.2.2 r.2 := wu_KV_KE v2.2.1 (fr.2 111 (by (try dsimp only); first | omega | exact fun h => h)) hr0.1
  exact wu_RM_kv v.1 v2.1 j fq fr kv (fun i k h => by unfold wu_mF at h; (try dsimp only); first | omega | exact fun h => h) (fun i h => by unfold wu_mA at h; (try dsimp only); first | omega | exact fun h => h) (fun k => by (try dsimp only); first | omega | exact fun h => h) (fun i h => by (try dsimp only); first | omega | exact fun h => h) (fun i k h => by (try dsimp only); first | omega | exact fun h => h) (fun i h => by (try dsimp only); first | omega | exact fun h => h) (fun k h => by unfold wu_mG at h; (try dsimp only); first | omega | exact fun h => h) (fun i h h9 => by unfold wu_mB at h; (try dsimp only); first | omega | exact fun h => h)
set_option maxHeartbeats 4000000 in
theorem wk2_lost (n : Nat) (hn : 4294967297 < n) {σ : wt_St} (x1 : Int32) (v : wt_IV σ) (j : wu_RM σ) : wt_H (wp_ap_lost n x1 σ) (fun q => wt_H (wp_md_lost n x1 q.2.2) (fun r => wu_RM r.2)) := by
  refine (wq_ap_lost n hn x1 σ).h.imp (fun q hq => ?_)
  have fq := hq.1
  have v2 : wt_IV q.2.2 := wt_IV_cls v fq (fun k => (by (try dsimp only); first | omega | exact fun h => h | (intros; omega) | decide)) (fun i hi => (by (try dsimp only); first | omega | exact fun h => h | (intros; omega) | decide))
  refine (wt_H_and (wh_lostR n hn v2.1) (wq_md_lost n hn x1 q.2.2 v2.1).h).imp (fun r hr0 => ?_)
  have hr := hr0.2
  have fr := hr.1
  have kv : wu_KV q.2.2 r.2 := wu_KV_KE v2.2.1 (fr.2 111 (by (try dsimp only); first | omega | exact fun h => h)) hr0.1
  exact wu_RM_kv v.1 v2.1 j fq fr kv (fun i k h => by unfold wu_mF at h; (try dsimp only); first | omega | exact fun h => h) (fun i h => by unfold wu_mA at h; (try dsimp only); first | omega | exact fun h => h) (fun k => by (try dsimp only); first | omega | exact fun h => h) (fun i h => by (try dsimp only); first | omega | exact fun h => h) (fun i k h => by (try dsimp only); first | omega | exact fun h => h) (fun i h => by (try dsimp only); first | omega | exact fun h => h) (fun k h => by unfold wu_mG at h; (try dsimp only); first | omega | exact fun h => h) (fun i h h9 => by unfold wu_mB at h; (try dsimp only); first | omega | exact fun h => h)
set_option maxHeartbeats 4000000 in
theorem wk2_ends (n : Nat) (hn : 4294967297 < n) {σ : wt_St} (x1 : Int32) (v : wt_IV σ) (j : wu_RM σ) : wt_H (wp_ap_ends n x1 σ) (fun q => wt_H (wp_md_ends n x1 q.2.2) (fun r => wu_RM r.2)) := by
  refine (wq_ap_ends n hn x1 σ).h.imp (fun q hq => ?_)
  have fq := hq.1
  have v2 : wt_IV q.2.2 := wt_IV_cls v fq (fun k => (by (try dsimp only); first | omega | exact fun h => h | (intros; omega) | decide)) (fun i hi => (by (try dsimp only); first | omega | exact fun h => h | (intros; omega) | decide))
  refine (wt_H_and (wh_endsR n hn v2.1) (wq_md_ends n hn x1 q.2.2 v2.1).h).imp (fun r hr0 => ?_)
  have hr := hr0.2
  have fr := hr.1
  have kv : wu_KV q.2.2 r.2 := wu_KV_KE v2.2.1 (fr.2 111 (by (try dsimp only); first | omega | exact fun h => h)) hr0.1
  exact wu_RM_kv v.1 v2.1 j fq fr kv (fun i k h => by unfold wu_mF at h; (try dsimp only); first | omega | exact fun h => h) (fun i h => by unfold wu_mA at h; (try dsimp only); first | omega | exact fun h => h) (fun k => by (try dsimp only); first | omega | exact fun h => h) (fun i h => by (try dsimp only); first | omega | exact fun h => h) (fun i k h => by (try dsimp only); first | omega | exact fun h => h) (fun i h => by (try dsimp only); first | omega | exact fun h => h) (fun k h => by unfold wu_mG at h; (try dsimp only); first | omega | exact fun h => h) (fun i h h9 => by unfold wu_mB at h; (try dsimp only); first | omega | exact fun h => h)
set_option maxHeartbeats 4000000 in
theorem wk2_exchange (n : Nat) (hn : 4294967297 < n) {σ : wt_St} (x1 : Int32) (v : wt_IV σ) (j : wu_RM σ) : wt_H (wp_ap_exchange n x1 σ) (fun q => wt_H (wp_md_exchange n x1 q.2.2) (fun r => wu_RM r.2)) := by
  refine (wq_ap_exchange n hn x1 σ).h.imp (fun q hq => ?_)
  have fq := hq.1
  have v2 : wt_IV q.2.2 := wt_IV_cls v fq (fun k => (by (try dsimp only); first | omega | exact fun h => h | (intros; omega) | decide)) (fun i hi => (by (try dsimp only); first | omega | exact fun h => h | (intros; omega) | decide))
  refine (wt_H_and (wh_exchangeR n hn v2.1 v2.2.1) (wq_md_exchange n hn x1 q.2.2 v2.1 v2.2.1).h).imp (fun r hr0 => ?_)
  have hr := hr0.2
  have fr := hr.1
  have kv : wu_KV q.2.2 r.2 := hr0.1
  exact wu_RM_kv v.1 v2.1 j fq fr kv (fun i k h => by unfold wu_mF at h; (try dsimp only); first | omega | exact fun h => h) (fun i h => by unfold wu_mA at h; (try dsimp only); first | omega | exact fun h => h) (fun k => by (try dsimp only); first | omega | exact fun h => h) (fun i h => by (try dsimp only); first | omega | exact fun h => h) (fun i k h => by (try dsimp only); first | omega | exact fun h => h) (fun i h => by (try dsimp only); first | omega | exact fun h => h) (fun k h => by unfold wu_mG at h; (try dsimp only); first | omega | exact fun h => h) (fun i h h9 => by unfold wu_mB at h; (try dsimp only); first | omega | exact fun h => h)
set_option maxHeartbeats 4000000 in
theorem wk2_cast (n : Nat) (hn : 4294967297 < n) {σ : wt_St} (x1 x2 : Int32) (v : wt_IV σ) (j : wu_RM σ) : wt_H (wp_ap_cast n x1 x2 σ) (fun q => wt_H (wp_md_cast n x1 x2 q.2.2) (fun r => wu_RM r.2)) := by
  refine (wq_ap_cast n hn x1 x2 σ).h.imp (fun q hq => ?_)
  have fq := hq.1
  have v2 : wt_IV q.2.2 := wt_IV_cls v fq (fun k => (by (try dsimp only); first | omega | exact fun h => h | (intros; omega) | decide)) (fun i hi => (by (try dsimp only); first | omega | exact fun h => h | (intros; omega) | decide))
  refine (wt_H_and (wh_castR n hn v2.1 v2.2.1) (wq_md_cast n hn x1 x2 q.2.2 v2.1 v2.2.1).h).imp (fun r hr0 => ?_)
  have hr := hr0.2
  have fr := hr.1
  have kv : wu_KV q.2.2 r.2 := hr0.1
  exact wu_RM_kv v.1 v2.1 j fq fr kv (fun i k h => by unfold wu_mF at h; (try dsimp only); first | omega | exact fun h => h) (fun i h => by unfold wu_mA at h; (try dsimp only); first | omega | exact fun h => h) (fun k => by (try dsimp only); first | omega | exact fun h => h) (fun i h => by (try dsimp only); first | omega | exact fun h => h) (fun i k h => by (try dsimp only); first | omega | exact fun h => h) (fun i h => by (try dsimp only); first | omega | exact fun h => h) (fun k h => by unfold wu_mG at h; (try dsimp only); first | omega | exact fun h => h) (fun i h h9 => by unfold wu_mB at h; (try dsimp only); first | omega | exact fun h => h)
set_option maxHeartbeats 4000000 in
theorem wk2_together (n : Nat) (hn : 4294967297 < n) {σ : wt_St} (x1 : Int32) (v : wt_IV σ) (j : wu_RM σ) : wt_H (wp_ap_together n x1 σ) (fun q => wt_H (wp_md_together n x1 q.2.2) (fun r => wu_RM r.2)) := by
  refine (wq_ap_together n hn x1 σ).h.imp (fun q hq => ?_)
  have fq := hq.1
  have v2 : wt_IV q.2.2 := wt_IV_cls v fq (fun k => (by (try dsimp only); first | omega | exact fun h => h | (intros; omega) | decide)) (fun i hi => (by (try dsimp only); first | omega | exact fun h => h | (intros; omega) | decide))
  refine (wt_H_and (wh_togetherR n hn v2.1) (wq_md_together n hn x1 q.2.2 v2.1).h).imp (fun r hr0 => ?_)
  have hr := hr0.2
  have fr := hr.1
  have kv : wu_KV q.2.2 r.2 := wu_KV_K0 v2.2.1 (wu_SC_fr j.2.1 fq fq (fun k hk => by (try dsimp only); first | omega | exact fun h => h) (fun k hk => by (try dsimp only); first | omega | exact fun h => h) (fun i p q => by (try dsimp only); first | omega | exact fun h => h) (fun i hi => by (try dsimp only); first | omega | exact fun h => h)) hr0.1
  exact wu_RM_kv v.1 v2.1 j fq fr kv (fun i k h => by unfold wu_mF at h; (try dsimp only); first | omega | exact fun h => h) (fun i h => by unfold wu_mA at h; (try dsimp only); first | omega | exact fun h => h) (fun k => by (try dsimp only); first | omega | exact fun h => h) (fun i h => by (try dsimp only); first | omega | exact fun h => h) (fun i k h => by (try dsimp only); first | omega | exact fun h => h) (fun i h => by (try dsimp only); first | omega | exact fun h => h) (fun k h => by unfold wu_mG at h; (try dsimp only); first | omega | exact fun h => h) (fun i h h9 => by unfold wu_mB at h; (try dsimp only); first | omega | exact fun h => h)
