-- 96j.rmops.lean.txt
section WTQ0
set_option maxHeartbeats 4000000 in
theorem wk2_feed (n : Nat) (hn : 4294967297 < n) {σ : wt_St} (x1 x2 x3 x4 x5 : Int32) (v : wt_IV σ) (j : wu_RM σ) : wt_H (wp_ap_feed n x1 x2 x3 x4 x5 σ) (fun q => wt_H (wp_md_feed n x1 x2 x3 x4 x5 q.2) (fun r => wu_RM r.2)) := by
  refine (wq_ap_feed n hn x1 x2 x3 x4 x5 σ).h.imp (fun q hq => ?_)
  have fq := hq.1
  have v2 : wt_IV q.2 := wt_IV_cls v fq (fun k => (by (try dsimp only); first | omega | exact fun h => h | (intros; omega) | decide)) (fun i hi => (by (try dsimp only); first | omega | exact fun h => h | (intros; omega) | decide))
  refine (wq_md_feed n hn x1 x2 x3 x4 x5 q.2 v2.1).h.imp (fun r hr => ?_)
  have fr := hr.1
  exact wu_RM_fr v.1 v2.1 j fq fr (fun i k h => by unfold wu_mF at h; (try dsimp only); first | omega | exact fun h => h) (fun i h => by unfold wu_mA at h; (try dsimp only); first | omega | exact fun h => h) (fun k => by (try dsimp only); first | omega | exact fun h => h) (fun i h => by (try dsimp only); first | omega | exact fun h => h) (fun i k h => by (try dsimp only); first | omega | exact fun h => h) (fun i h => by (try dsimp only); first | omega | exact fun h => h) (fun k h => by unfold wu_mG at h; (try dsimp only); first | omega | exact fun h => h) (fun i h => by unfold wu_mB at h; (try dsimp only); first | omega | exact fun h => h)
set_option maxHeartbeats 4000000 in
theorem wk2_fault (n : Nat) (hn : 4294967297 < n) {σ : wt_St} (v : wt_IV σ) (j : wu_RM σ) : wt_H (wp_ap_fault n σ) (fun q => wt_H (wp_md_fault n q.2) (fun r => wu_RM r.2)) := by
  refine (wq_ap_fault n hn σ).h.imp (fun q hq => ?_)
  have fq := (by rw [hq]; exact wt_fr.rf : wt_fr (fun _ _ => False) (fun _ => False) σ q.2)
  have v2 : wt_IV q.2 := wt_IV_cls v fq (fun k => (by (try dsimp only); first | omega | exact fun h => h | (intros; omega) | decide)) (fun i hi => (by (try dsimp only); first | omega | exact fun h => h | (intros; omega) | decide))
  refine (wq_md_fault n hn q.2 v2.1).h.imp (fun r hr => ?_)
  have fr := hr.1
  exact wu_RM_fr v.1 v2.1 j fq fr (fun i k h => by unfold wu_mF at h; (try dsimp only); first | omega | exact fun h => h) (fun i h => by unfold wu_mA at h; (try dsimp only); first | omega | exact fun h => h) (fun k => by (try dsimp only); first | omega | exact fun h => h) (fun i h => by (try dsimp only); first | omega | exact fun h => h) (fun i k h => by (try dsimp only); first | omega | exact fun h => h) (fun i h => by (try dsimp only); first | omega | exact fun h => h) (fun k h => by unfold wu_mG at h; (try dsimp only); first | omega | exact fun h => h) (fun i h => by unfold wu_mB at h; (try dsimp only); first | omega | exact fun h => h)
set_option maxHeartbeats 4000000 in
theorem wk2_told (n : Nat) (hn : 4294967297 < n) {σ : wt_St} (x1 : Int32) (v : wt_IV σ) (j : wu_RM σ) : wt_H (wp_ap_told n x1 σ) (fun q => wt_H (wp_md_told n x1 q.2.2) (fun r => wu_RM r.2)) := by
  refine (wq_ap_told n hn x1 σ).h.imp (fun q hq => ?_)
  have fq := (by rw [hq.1]; exact wt_fr.rf : wt_fr (fun _ _ => False) (fun _ => False) σ q.2.2)
  have v2 : wt_IV q.2.2 := wt_IV_cls v fq (fun k => (by (try dsimp only); first | omega | exact fun h => h | (intros; omega) | decide)) (fun i hi => (by (try dsimp only); first | omega | exact fun h => h | (intros; omega) | decide))
  refine (wq_md_told n hn x1 q.2.2 v2.1).h.imp (fun r hr => ?_)
  have fr := hr.1
  exact wu_RM_fr v.1 v2.1 j fq fr (fun i k h => by unfold wu_mF at h; (try dsimp only); first | omega | exact fun h => h) (fun i h => by unfold wu_mA at h; (try dsimp only); first | omega | exact fun h => h) (fun k => by (try dsimp only); first | omega | exact fun h => h) (fun i h => by (try dsimp only); first | omega | exact fun h => h) (fun i k h => by (try dsimp only); first | omega | exact fun h => h) (fun i h => by (try dsimp only); first | omega | exact fun h => h) (fun k h => by unfold wu_mG at h; (try dsimp only); first | omega | exact fun h => h) (fun i h => by unfold wu_mB at h; (try dsimp only); first | omega | exact fun h => h)
set_option maxHeartbeats 4000000 in
theorem wk2_letter (n : Nat) (hn : 4294967297 < n) {σ : wt_St} (x1 x2 : Int32) (v : wt_IV σ) (j : wu_RM σ) : wt_H (wp_ap_letter n x1 x2 σ) (fun q => wt_H (wp_md_letter n x1 x2 q.2.2) (fun r => wu_RM r.2)) := by
  refine (wq_ap_letter n hn x1 x2 σ).h.imp (fun q hq => ?_)
  have fq := (by rw [hq.1]; exact wt_fr.rf : wt_fr (fun _ _ => False) (fun _ => False) σ q.2.2)
  have v2 : wt_IV q.2.2 := wt_IV_cls v fq (fun k => (by (try dsimp only); first | omega | exact fun h => h | (intros; omega) | decide)) (fun i hi => (by (try dsimp only); first | omega | exact fun h => h | (intros; omega) | decide))
  refine (wq_md_letter n hn x1 x2 q.2.2 v2.1).h.imp (fun r hr => ?_)
  have fr := hr.1
  exact wu_RM_fr v.1 v2.1 j fq fr (fun i k h => by unfold wu_mF at h; (try dsimp only); first | omega | exact fun h => h) (fun i h => by unfold wu_mA at h; (try dsimp only); first | omega | exact fun h => h) (fun k => by (try dsimp only); first | omega | exact fun h => h) (fun i h => by (try dsimp only); first | omega | exact fun h => h) (fun i k h => by (try dsimp only); first | omega | exact fun h => h) (fun i h => by (try dsimp only); first | omega | exact fun h => h) (fun k h => by unfold wu_mG at h; (try dsimp only); first | omega | exact fun h => h) (fun i h => by unfold wu_mB at h; (try dsimp only); first | omega | exact fun h => h)
set_option maxHeartbeats 4000000 in
theorem wk2_piece (n : Nat) (hn : 4294967297 < n) {σ : wt_St} (x1 x2 x3 : Int32) (v : wt_IV σ) (j : wu_RM σ) : wt_H (wp_ap_piece n x1 x2 x3 σ) (fun q => wt_H (wp_md_piece n x1 x2 x3 q.2.2) (fun r => wu_RM r.2)) := by
  refine (wq_ap_piece n hn x1 x2 x3 σ).h.imp (fun q hq => ?_)
  have fq := (by rw [hq.1]; exact wt_fr.rf : wt_fr (fun _ _ => False) (fun _ => False) σ q.2.2)
  have v2 : wt_IV q.2.2 := wt_IV_cls v fq (fun k => (by (try dsimp only); first | omega | exact fun h => h | (intros; omega) | decide)) (fun i hi => (by (try dsimp only); first | omega | exact fun h => h | (intros; omega) | decide))
  refine (wq_md_piece n hn x1 x2 x3 q.2.2 v2.1).h.imp (fun r hr => ?_)
  have fr := hr.1
  exact wu_RM_fr v.1 v2.1 j fq fr (fun i k h => by unfold wu_mF at h; (try dsimp only); first | omega | exact fun h => h) (fun i h => by unfold wu_mA at h; (try dsimp only); first | omega | exact fun h => h) (fun k => by (try dsimp only); first | omega | exact fun h => h) (fun i h => by (try dsimp only); first | omega | exact fun h => h) (fun i k h => by (try dsimp only); first | omega | exact fun h => h) (fun i h => by (try dsimp only); first | omega | exact fun h => h) (fun k h => by unfold wu_mG at h; (try dsimp only); first | omega | exact fun h => h) (fun i h => by unfold wu_mB at h; (try dsimp only); first | omega | exact fun h => h)
set_option maxHeartbeats 4000000 in
theorem wk2_word (n : Nat) (hn : 4294967297 < n) {σ : wt_St} (x1 x2 : Int32) (v : wt_IV σ) (j : wu_RM σ) : wt_H (wp_ap_word n x1 x2 σ) (fun q => wt_H (wp_md_word n x1 x2 q.2.2) (fun r => wu_RM r.2)) := by
  refine (wq_ap_word n hn x1 x2 σ).h.imp (fun q hq => ?_)
  have fq := hq.1
  have v2 : wt_IV q.2.2 := wt_IV_cls v fq (fun k => (by (try dsimp only); first | omega | exact fun h => h | (intros; omega) | decide)) (fun i hi => (by (try dsimp only); first | omega | exact fun h => h | (intros; omega) | decide))
  refine (wq_md_word n hn x1 x2 q.2.2 v2.1).h.imp (fun r hr => ?_)
  have fr := hr.1
  exact wu_RM_fr v.1 v2.1 j fq fr (fun i k h => by unfold wu_mF at h; (try dsimp only); first | omega | exact fun h => h) (fun i h => by unfold wu_mA at h; (try dsimp only); first | omega | exact fun h => h) (fun k => by (try dsimp only); first | omega | exact fun h => h) (fun i h => by (try dsimp only); first | omega | exact fun h => h) (fun i k h => by (try dsimp only); first | omega | exact fun h => h) (fun i h => by (try dsimp only); first | omega | exact fun h => h) (fun k h => by unfold wu_mG at h; (try dsimp only); first | omega | exact fun h => h) (fun i h => by unfold wu_mB at h; (try dsimp only); first | omega | exact fun h => h)
set_option maxHeartbeats 4000000 in
theorem wk2_at (n : Nat) (hn : 4294967297 < n) {σ : wt_St} (x1 x2 : Int32) (v : wt_IV σ) (j : wu_RM σ) : wt_H (wp_ap_at n x1 x2 σ) (fun q => wt_H (wp_md_at n x1 x2 q.2.2) (fun r => wu_RM r.2)) := by
  refine (wq_ap_at n hn x1 x2 σ).h.imp (fun q hq => ?_)
  have fq := (by rw [hq.1]; exact wt_fr.rf : wt_fr (fun _ _ => False) (fun _ => False) σ q.2.2)
  have v2 : wt_IV q.2.2 := wt_IV_cls v fq (fun k => (by (try dsimp only); first | omega | exact fun h => h | (intros; omega) | decide)) (fun i hi => (by (try dsimp only); first | omega | exact fun h => h | (intros; omega) | decide))
  refine (wq_md_at n hn x1 x2 q.2.2 v2.1).h.imp (fun r hr => ?_)
  have fr := hr.1
  exact wu_RM_fr v.1 v2.1 j fq fr (fun i k h => by unfold wu_mF at h; (try dsimp only); first | omega | exact fun h => h) (fun i h => by unfold wu_mA at h; (try dsimp only); first | omega | exact fun h => h) (fun k => by (try dsimp only); first | omega | exact fun h => h) (fun i h => by (try dsimp only); first | omega | exact fun h => h) (fun i k h => by (try dsimp only); first | omega | exact fun h => h) (fun i h => by (try dsimp only); first | omega | exact fun h => h) (fun k h => by unfold wu_mG at h; (try dsimp only); first | omega | exact fun h => h) (fun i h => by unfold wu_mB at h; (try dsimp only); first | omega | exact fun h => h)
set_option maxHeartbeats 4000000 in
theorem wk2_needs (n : Nat) (hn : 4294967297 < n) {σ : wt_St} (x1 x2 : Int32) (v : wt_IV σ) (j : wu_RM σ) : wt_H (wp_ap_needs n x1 x2 σ) (fun q => wt_H (wp_md_needs n x1 x2 q.2.2) (fun r => wu_RM r.2)) := by
  refine (wq_ap_needs n hn x1 x2 σ).h.imp (fun q hq => ?_)
  have fq := (by rw [hq.1]; exact wt_fr.rf : wt_fr (fun _ _ => False) (fun _ => False) σ q.2.2)
  have v2 : wt_IV q.2.2 := wt_IV_cls v fq (fun k => (by (try dsimp only); first | omega | exact fun h => h | (intros; omega) | decide)) (fun i hi => (by (try dsimp only); first | omega | exact fun h => h | (intros; omega) | decide))
  refine (wq_md_needs n hn x1 x2 q.2.2 v2.1).h.imp (fun r hr => ?_)
  have fr := hr.1
  exact wu_RM_fr v.1 v2.1 j fq fr (fun i k h => by unfold wu_mF at h; (try dsimp only); first | omega | exact fun h => h) (fun i h => by unfold wu_mA at h; (try dsimp only); first | omega | exact fun h => h) (fun k => by (try dsimp only); first | omega | exact fun h => h) (fun i h => by (try dsimp only); first | omega | exact fun h => h) (fun i k h => by (try dsimp only); first | omega | exact fun h => h) (fun i h => by (try dsimp only); first | omega | exact fun h => h) (fun k h => by unfold wu_mG at h; (try dsimp only); first | omega | exact fun h => h) (fun i h => by unfold wu_mB at h; (try dsimp only); first | omega | exact fun h => h)
set_option maxHeartbeats 4000000 in
theorem wk2_can (n : Nat) (hn : 4294967297 < n) {σ : wt_St} (x1 : Int32) (v : wt_IV σ) (j : wu_RM σ) : wt_H (wp_ap_can n x1 σ) (fun q => wt_H (wp_md_can n x1 q.2.2) (fun r => wu_RM r.2)) := by
  refine (wq_ap_can n hn x1 σ).h.imp (fun q hq => ?_)
  have fq := hq.1
  have v2 : wt_IV q.2.2 := wt_IV_cls v fq (fun k => (by (try dsimp only); first | omega | exact fun h => h | (intros; omega) | decide)) (fun i hi => (by (try dsimp only); first | omega | exact fun h => h | (intros; omega) | decide))
  refine (wq_md_can n hn x1 q.2.2 v2.1).h.imp (fun r hr => ?_)
  have fr := hr.1
  exact wu_RM_fr v.1 v2.1 j fq fr (fun i k h => by unfold wu_mF at h; (try dsimp only); first | omega | exact fun h => h) (fun i h => by unfold wu_mA at h; (try dsimp only); first | omega | exact fun h => h) (fun k => by (try dsimp only); first | omega | exact fun h => h) (fun i h => by (try dsimp only); first | omega | exact fun h => h) (fun i k h => by (try dsimp only); first | omega | exact fun h => h) (fun i h => by (try dsimp only); first | omega | exact fun h => h) (fun k h => by unfold wu_mG at h; (try dsimp only); first | omega | exact fun h => h) (fun i h => by unfold wu_mB at h; (try dsimp only); first | omega | exact fun h => h)
set_option maxHeartbeats 4000000 in
theorem wk2_lacks (n : Nat) (hn : 4294967297 < n) {σ : wt_St} (x1 x2 : Int32) (v : wt_IV σ) (j : wu_RM σ) : wt_H (wp_ap_lacks n x1 x2 σ) (fun q => wt_H (wp_md_lacks n x1 x2 q.2.2) (fun r => wu_RM r.2)) := by
  refine (wq_ap_lacks n hn x1 x2 σ).h.imp (fun q hq => ?_)
  have fq := hq.1
  have v2 : wt_IV q.2.2 := wt_IV_cls v fq (fun k => (by (try dsimp only); first | omega | exact fun h => h | (intros; omega) | decide)) (fun i hi => (by (try dsimp only); first | omega | exact fun h => h | (intros; omega) | decide))
  refine (wq_md_lacks n hn x1 x2 q.2.2 v2.1).h.imp (fun r hr => ?_)
  have fr := hr.1
  exact wu_RM_fr v.1 v2.1 j fq fr (fun i k h => by unfold wu_mF at h; (try dsimp only); first | omega | exact fun h => h) (fun i h => by unfold wu_mA at h; (try dsimp only); first | omega | exact fun h => h) (fun k => by (try dsimp only); first | omega | exact fun h => h) (fun i h => by (try dsimp only); first | omega | exact fun h => h) (fun i k h => by (try dsimp only); first | omega | exact fun h => h) (fun i h => by (try dsimp only); first | omega | exact fun h => h) (fun k h => by unfold wu_mG at h; (try dsimp only); first | omega | exact fun h => h) (fun i h => by unfold wu_mB at h; (try dsimp only); first | omega | exact fun h => h)
set_option maxHeartbeats 4000000 in
theorem wk2_page (n : Nat) (hn : 4294967297 < n) {σ : wt_St} (x1 x2 : Int32) (v : wt_IV σ) (j : wu_RM σ) : wt_H (wp_ap_page n x1 x2 σ) (fun q => wt_H (wp_md_page n x1 x2 q.2.2) (fun r => wu_RM r.2)) := by
  refine (wq_ap_page n hn x1 x2 σ).h.imp (fun q hq => ?_)
  have fq := hq.1
  have v2 : wt_IV q.2.2 := wt_IV_cls v fq (fun k => (by (try dsimp only); first | omega | exact fun h => h | (intros; omega) | decide)) (fun i hi => (by (try dsimp only); first | omega | exact fun h => h | (intros; omega) | decide))
  refine (wq_md_page n hn x1 x2 q.2.2 v2.1 v2.2.2.1).h.imp (fun r hr => ?_)
  have fr := hr.1
  exact wu_RM_fr v.1 v2.1 j fq fr (fun i k h => by unfold wu_mF at h; (try dsimp only); first | omega | exact fun h => h) (fun i h => by unfold wu_mA at h; (try dsimp only); first | omega | exact fun h => h) (fun k => by (try dsimp only); first | omega | exact fun h => h) (fun i h => by (try dsimp only); first | omega | exact fun h => h) (fun i k h => by (try dsimp only); first | omega | exact fun h => h) (fun i h => by (try dsimp only); first | omega | exact fun h => h) (fun k h => by unfold wu_mG at h; (try dsimp only); first | omega | exact fun h => h) (fun i h => by unfold wu_mB at h; (try dsimp only); first | omega | exact fun h => h)
set_option maxHeartbeats 4000000 in
theorem wk2_read (n : Nat) (hn : 4294967297 < n) {σ : wt_St} (x1 x2 : Int32) (v : wt_IV σ) (j : wu_RM σ) : wt_H (wp_ap_read n x1 x2 σ) (fun q => wt_H (wp_md_read n x1 x2 q.2.2) (fun r => wu_RM r.2)) := by
  refine (wq_ap_read n hn x1 x2 σ).h.imp (fun q hq => ?_)
  have fq := hq.1
  have v2 : wt_IV q.2.2 := wt_IV_cls v fq (fun k => (by (try dsimp only); first | omega | exact fun h => h | (intros; omega) | decide)) (fun i hi => (by (try dsimp only); first | omega | exact fun h => h | (intros; omega) | decide))
  refine (wq_md_read n hn x1 x2 q.2.2 v2.1 v2.2.2.1).h.imp (fun r hr => ?_)
  have fr := hr.1
  exact wu_RM_fr v.1 v2.1 j fq fr (fun i k h => by unfold wu_mF at h; (try dsimp only); first | omega | exact fun h => h) (fun i h => by unfold wu_mA at h; (try dsimp only); first | omega | exact fun h => h) (fun k => by (try dsimp only); first | omega | exact fun h => h) (fun i h => by (try dsimp only); first | omega | exact fun h => h) (fun i k h => by (try dsimp only); first | omega | exact fun h => h) (fun i h => by (try dsimp only); first | omega | exact fun h => h) (fun k h => by unfold wu_mG at h; (try dsimp only); first | omega | exact fun h => h) (fun i h => by unfold wu_mB at h; (try dsimp only); first | omega | exact fun h => h)
set_option maxHeartbeats 4000000 in
theorem wk2_least (n : Nat) (hn : 4294967297 < n) {σ : wt_St} (x1 x2 x3 : Int32) (v : wt_IV σ) (j : wu_RM σ) : wt_H (wp_ap_least n x1 x2 x3 σ) (fun q => wt_H (wp_md_least n x1 x2 x3 q.2.2) (fun r => wu_RM r.2)) := by
  refine (wq_ap_least n hn x1 x2 x3 σ).h.imp (fun q hq => ?_)
  have fq := hq.1
  have v2 : wt_IV q.2.2 := wt_IV_cls v fq (fun k => (by (try dsimp only); first | omega | exact fun h => h | (intros; omega) | decide)) (fun i hi => (by (try dsimp only); first | omega | exact fun h => h | (intros; omega) | decide))
  refine (wq_md_least n hn x1 x2 x3 q.2.2 v2.1).h.imp (fun r hr => ?_)
  have fr := hr.1
  exact wu_RM_fr v.1 v2.1 j fq fr (fun i k h => by unfold wu_mF at h; (try dsimp only); first | omega | exact fun h => h) (fun i h => by unfold wu_mA at h; (try dsimp only); first | omega | exact fun h => h) (fun k => by (try dsimp only); first | omega | exact fun h => h) (fun i h => by (try dsimp only); first | omega | exact fun h => h) (fun i k h => by (try dsimp only); first | omega | exact fun h => h) (fun i h => by (try dsimp only); first | omega | exact fun h => h) (fun k h => by unfold wu_mG at h; (try dsimp only); first | omega | exact fun h => h) (fun i h => by unfold wu_mB at h; (try dsimp only); first | omega | exact fun h => h)
set_option maxHeartbeats 4000000 in
theorem wk2_fitting (n : Nat) (hn : 4294967297 < n) {σ : wt_St} (x1 x2 x3 x4 : Int32) (v : wt_IV σ) (j : wu_RM σ) : wt_H (wp_ap_fitting n x1 x2 x3 x4 σ) (fun q => wt_H (wp_md_fitting n x1 x2 x3 x4 q.2.2) (fun r => wu_RM r.2)) := by
  refine (wq_ap_fitting n hn x1 x2 x3 x4 σ).h.imp (fun q hq => ?_)
  have fq := hq.1
  have v2 : wt_IV q.2.2 := wt_IV_cls v fq (fun k => (by (try dsimp only); first | omega | exact fun h => h | (intros; omega) | decide)) (fun i hi => (by (try dsimp only); first | omega | exact fun h => h | (intros; omega) | decide))
  refine (wq_md_fitting n hn x1 x2 x3 x4 q.2.2 v2.1).h.imp (fun r hr => ?_)
  have fr := hr.1
  exact wu_RM_fr v.1 v2.1 j fq fr (fun i k h => by unfold wu_mF at h; (try dsimp only); first | omega | exact fun h => h) (fun i h => by unfold wu_mA at h; (try dsimp only); first | omega | exact fun h => h) (fun k => by (try dsimp only); first | omega | exact fun h => h) (fun i h => by (try dsimp only); first | omega | exact fun h => h) (fun i k h => by (try dsimp only); first | omega | exact fun h => h) (fun i h => by (try dsimp only); first | omega | exact fun h => h) (fun k h => by unfold wu_mG at h; (try dsimp only); first | omega | exact fun h => h) (fun i h => by unfold wu_mB at h; (try dsimp only); first | omega | exact fun h => h)
set_option maxHeartbeats 4000000 in
theorem wk2_wordings (n : Nat) (hn : 4294967297 < n) {σ : wt_St} (x1 : Int32) (v : wt_IV σ) (j : wu_RM σ) : wt_H (wp_ap_wordings n x1 σ) (fun q => wt_H (wp_md_wordings n x1 q.2.2) (fun r => wu_RM r.2)) := by
  refine (wq_ap_wordings n hn x1 σ).h.imp (fun q hq => ?_)
  have fq := hq.1
  have v2 : wt_IV q.2.2 := wt_IV_cls v fq (fun k => (by (try dsimp only); first | omega | exact fun h => h | (intros; omega) | decide)) (fun i hi => (by (try dsimp only); first | omega | exact fun h => h | (intros; omega) | decide))
  refine (wq_md_wordings n hn x1 q.2.2 v2.1).h.imp (fun r hr => ?_)
  have fr := hr.1
  exact wu_RM_fr v.1 v2.1 j fq fr (fun i k h => by unfold wu_mF at h; (try dsimp only); first | omega | exact fun h => h) (fun i h => by unfold wu_mA at h; (try dsimp only); first | omega | exact fun h => h) (fun k => by (try dsimp only); first | omega | exact fun h => h) (fun i h => by (try dsimp only); first | omega | exact fun h => h) (fun i k h => by (try dsimp only); first | omega | exact fun h => h) (fun i h => by (try dsimp only); first | omega | exact fun h => h) (fun k h => by unfold wu_mG at h; (try dsimp only); first | omega | exact fun h => h) (fun i h => by unfold wu_mB at h; (try dsimp only); first | omega | exact fun h => h)
set_option maxHeartbeats 4000000 in
theorem wk2_bound (n : Nat) (hn : 4294967297 < n) {σ : wt_St} (v : wt_IV σ) (j : wu_RM σ) : wt_H (wp_ap_bound n σ) (fun q => wt_H (wp_md_bound n q.2) (fun r => wu_RM r.2)) := by
  refine (wq_ap_bound n hn σ).h.imp (fun q hq => ?_)
  have fq := (by rw [hq]; exact wt_fr.rf : wt_fr (fun _ _ => False) (fun _ => False) σ q.2)
  have v2 : wt_IV q.2 := wt_IV_cls v fq (fun k => (by (try dsimp only); first | omega | exact fun h => h | (intros; omega) | decide)) (fun i hi => (by (try dsimp only); first | omega | exact fun h => h | (intros; omega) | decide))
  refine (wq_md_bound n hn q.2 v2.1).h.imp (fun r hr => ?_)
  have fr := hr.1
  exact wu_RM_fr v.1 v2.1 j fq fr (fun i k h => by unfold wu_mF at h; (try dsimp only); first | omega | exact fun h => h) (fun i h => by unfold wu_mA at h; (try dsimp only); first | omega | exact fun h => h) (fun k => by (try dsimp only); first | omega | exact fun h => h) (fun i h => by (try dsimp only); first | omega | exact fun h => h) (fun i k h => by (try dsimp only); first | omega | exact fun h => h) (fun i h => by (try dsimp only); first | omega | exact fun h => h) (fun k h => by unfold wu_mG at h; (try dsimp only); first | omega | exact fun h => h) (fun i h => by unfold wu_mB at h; (try dsimp only); first | omega | exact fun h => h)
set_option maxHeartbeats 4000000 in
theorem wk2_count (n : Nat) (hn : 4294967297 < n) {σ : wt_St} (x1 : Int32) (v : wt_IV σ) (j : wu_RM σ) : wt_H (wp_ap_count n x1 σ) (fun q => wt_H (wp_md_count n x1 q.2) (fun r => wu_RM r.2)) := by
  refine (wq_ap_count n hn x1 σ).h.imp (fun q hq => ?_)
  have fq := (by rw [hq]; exact wt_fr.rf : wt_fr (fun _ _ => False) (fun _ => False) σ q.2)
  have v2 : wt_IV q.2 := wt_IV_cls v fq (fun k => (by (try dsimp only); first | omega | exact fun h => h | (intros; omega) | decide)) (fun i hi => (by (try dsimp only); first | omega | exact fun h => h | (intros; omega) | decide))
  refine (wq_md_count n hn x1 q.2 v2.1).h.imp (fun r hr => ?_)
  have fr := hr.1
  exact wu_RM_fr v.1 v2.1 j fq fr (fun i k h => by unfold wu_mF at h; (try dsimp only); first | omega | exact fun h => h) (fun i h => by unfold wu_mA at h; (try dsimp only); first | omega | exact fun h => h) (fun k => by (try dsimp only); first | omega | exact fun h => h) (fun i h => by (try dsimp only); first | omega | exact fun h => h) (fun i k h => by (try dsimp only); first | omega | exact fun h => h) (fun i h => by (try dsimp only); first | omega | exact fun h => h) (fun k h => by unfold wu_mG at h; (try dsimp only); first | omega | exact fun h => h) (fun i h => by unfold wu_mB at h; (try dsimp only); first | omega | exact fun h => h)
set_option maxHeartbeats 4000000 in
theorem wk2_most (n : Nat) (hn : 4294967297 < n) {σ : wt_St} (x1 : Int32) (v : wt_IV σ) (j : wu_RM σ) : wt_H (wp_ap_most n x1 σ) (fun q => wt_H (wp_md_most n x1 q.2.2) (fun r => wu_RM r.2)) := by
  refine (wq_ap_most n hn x1 σ).h.imp (fun q hq => ?_)
  have fq := hq.1
  have v2 : wt_IV q.2.2 := wt_IV_cls v fq (fun k => (by (try dsimp only); first | omega | exact fun h => h | (intros; omega) | decide)) (fun i hi => (by (try dsimp only); first | omega | exact fun h => h | (intros; omega) | decide))
  refine (wt_H_and (wh_mostR n hn v2.1) (wq_md_most n hn x1 q.2.2 v2.1).h).imp (fun r hr0 => ?_)
  have hr := hr0.2
  have fr := hr.1
  have kv : wu_KV q.2.2 r.2 := wu_KV_KE v2.2.1 (fr.2 111 (by (try dsimp only); first | omega | exact fun h => h)) hr0.1
  exact wu_RM_kv v.1 v2.1 j fq fr kv (fun i k h => by unfold wu_mF at h; (try dsimp only); first | omega | exact fun h => h) (fun i h => by unfold wu_mA at h; (try dsimp only); first | omega | exact fun h => h) (fun k => by (try dsimp only); first | omega | exact fun h => h) (fun i h => by (try dsimp only); first | omega | exact fun h => h) (fun i k h => by (try dsimp only); first | omega | exact fun h => h) (fun i h => by (try dsimp only); first | omega | exact fun h => h) (fun k h => by unfold wu_mG at h; (try dsimp only); first | omega | exact fun h => h) (fun i h h9 => by unfold wu_mB at h; (try dsimp only); first | omega | exact fun h => h)
set_option maxHeartbeats 4000000 in
theorem wk2_greedy (n : Nat) (hn : 4294967297 < n) {σ : wt_St} (x1 : Int32) (v : wt_IV σ) (j : wu_RM σ) : wt_H (wp_ap_greedy n x1 σ) (fun q => wt_H (wp_md_greedy n x1 q.2.2) (fun r => wu_RM r.2)) := by
  refine (wq_ap_greedy n hn x1 σ).h.imp (fun q hq => ?_)
  have fq := hq.1
  have v2 : wt_IV q.2.2 := wt_IV_cls v fq (fun k => (by (try dsimp only); first | omega | exact fun h => h | (intros; omega) | decide)) (fun i hi => (by (try dsimp only); first | omega | exact fun h => h | (intros; omega) | decide))
  refine (wt_H_and (wh_greedyR n hn v2.1) (wq_md_greedy n hn x1 q.2.2 v2.1).h).imp (fun r hr0 => ?_)
  have hr := hr0.2
  have fr := hr.1
  have kv : wu_KV q.2.2 r.2 := wu_KV_KE v2.2.1 (fr.2 111 (by (try dsimp only); first | omega | exact fun h => h)) hr0.1
  exact wu_RM_kv v.1 v2.1 j fq fr kv (fun i k h => by unfold wu_mF at h; (try dsimp only); first | omega | exact fun h => h) (fun i h => by unfold wu_mA at h; (try dsimp only); first | omega | exact fun h => h) (fun k => by (try dsimp only); first | omega | exact fun h => h) (fun i h => by (try dsimp only); first | omega | exact fun h => h) (fun i k h => by (try dsimp only); first | omega | exact fun h => h) (fun i h => by (try dsimp only); first | omega | exact fun h => h) (fun k h => by unfold wu_mG at h; (try dsimp only); first | omega | exact fun h => h) (fun i h h9 => by unfold wu_mB at h; (try dsimp only); first | omega | exact fun h => h)
set_option maxHeartbeats 4000000 in
theorem wk2_said (n : Nat) (hn : 4294967297 < n) {σ : wt_St} (x1 x2 : Int32) (v : wt_IV σ) (j : wu_RM σ) : wt_H (wp_ap_said n x1 x2 σ) (fun q => wt_H (wp_md_said n x1 x2 q.2.2) (fun r => wu_RM r.2)) := by
  refine (wq_ap_said n hn x1 x2 σ).h.imp (fun q hq => ?_)
  have fq := hq.1
  have v2 : wt_IV q.2.2 := wt_IV_cls v fq (fun k => (by (try dsimp only); first | omega | exact fun h => h | (intros; omega) | decide)) (fun i hi => (by (try dsimp only); first | omega | exact fun h => h | (intros; omega) | decide))
  refine (wt_H_and (wh_saidR n hn v2.1) (wq_md_said n hn x1 x2 q.2.2 v2.1).h).imp (fun r hr0 => ?_)
  have hr := hr0.2
  have fr := hr.1
  have kv : wu_KV q.2.2 r.2 := wu_KV_KE v2.2.1 (fr.2 111 (by (try dsimp only); first | omega | exact fun h => h)) hr0.1
  exact wu_RM_kv v.1 v2.1 j fq fr kv (fun i k h => by unfold wu_mF at h; (try dsimp only); first | omega | exact fun h => h) (fun i h => by unfold wu_mA at h; (try dsimp only); first | omega | exact fun h => h) (fun k => by (try dsimp only); first | omega | exact fun h => h) (fun i h => by (try dsimp only); first | omega | exact fun h => h) (fun i k h => by (try dsimp only); first | omega | exact fun h => h) (fun i h => by (try dsimp only); first | omega | exact fun h => h) (fun k h => by unfold wu_mG at h; (try dsimp only); first | omega | exact fun h => h) (fun i h h9 => by unfold wu_mB at h; (try dsimp only); first | omega | exact fun h => h)
set_option maxHeartbeats 4000000 in
theorem wk2_lost (n : Nat) (hn : 4294967297 < n) {σ : wt_St} (x1 : Int32) (v : wt_IV σ) (j : wu_RM σ) : wt_H (wp_ap_lost n x1 σ) (fun q => wt_H (wp_md_lost n x1 q.2.2) (fun r => wu_RM r.2)) := by
  refine (wq_ap_lost n hn x1 σ).h.imp (fun q hq => ?_)
  have fq := hq.1
  have v2 : wt_IV q.2.2 := wt_IV_cls v fq (fun k => (by (try dsimp only); first | omega | exact fun h => h | (intros; omega) | decide)) (fun i hi => (by (try dsimp only); first | omega | exact fun h => h | (intros; omega) | decide))
  refine (wt_H_and (wh_lostR n hn v2.1) (wq_md_lost n hn x1 q.2.2 v2.1).h).imp (fun r hr0 => ?_)
  have hr := hr0.2
  have fr := hr.1
  have kv : wu_KV q.2.2 r.2 := wu_KV_KE v2.2.1 (fr.2 111 (by (try dsimp only); first | omega | exact fun h => h)) hr0.1
  exact wu_RM_kv v.1 v2.1 j fq fr kv (fun i k h => by unfold wu_mF at h; (try dsimp only); first | omega | exact fun h => h) (fun i h => by unfold wu_mA at h; (try dsimp only); first | omega | exact fun h => h) (fun k => by (try dsimp only); first | omega | exact fun h => h) (fun i h => by (try dsimp only); first | omega | exact fun h => h) (fun i k h => by (try dsimp only); first | omega | exact fun h => h) (fun i h => by (try dsimp only); first | omega | exact fun h => h) (fun k h => by unfold wu_mG at h; (try dsimp only); first | omega | exact fun h => h) (fun i h h9 => by unfold wu_mB at h; (try dsimp only); first | omega | exact fun h => h)
set_option maxHeartbeats 4000000 in
theorem wk2_ends (n : Nat) (hn : 4294967297 < n) {σ : wt_St} (x1 : Int32) (v : wt_IV σ) (j : wu_RM σ) : wt_H (wp_ap_ends n x1 σ) (fun q => wt_H (wp_md_ends n x1 q.2.2) (fun r => wu_RM r.2)) := by
  refine (wq_ap_ends n hn x1 σ).h.imp (fun q hq => ?_)
  have fq := hq.1
  have v2 : wt_IV q.2.2 := wt_IV_cls v fq (fun k => (by (try dsimp only); first | omega | exact fun h => h | (intros; omega) | decide)) (fun i hi => (by (try dsimp only); first | omega | exact fun h => h | (intros; omega) | decide))
  refine (wt_H_and (wh_endsR n hn v2.1) (wq_md_ends n hn x1 q.2.2 v2.1).h).imp (fun r hr0 => ?_)
  have hr := hr0.2
  have fr := hr.1
  have kv : wu_KV q.2.2 r.2 := wu_KV_KE v2.2.1 (fr.2 111 (by (try dsimp only); first | omega | exact fun h => h)) hr0.1
  exact wu_RM_kv v.1 v2.1 j fq fr kv (fun i k h => by unfold wu_mF at h; (try dsimp only); first | omega | exact fun h => h) (fun i h => by unfold wu_mA at h; (try dsimp only); first | omega | exact fun h => h) (fun k => by (try dsimp only); first | omega | exact fun h => h) (fun i h => by (try dsimp only); first | omega | exact fun h => h) (fun i k h => by (try dsimp only); first | omega | exact fun h => h) (fun i h => by (try dsimp only); first | omega | exact fun h => h) (fun k h => by unfold wu_mG at h; (try dsimp only); first | omega | exact fun h => h) (fun i h h9 => by unfold wu_mB at h; (try dsimp only); first | omega | exact fun h => h)
set_option maxHeartbeats 4000000 in
theorem wk2_exchange (n : Nat) (hn : 4294967297 < n) {σ : wt_St} (x1 : Int32) (v : wt_IV σ) (j : wu_RM σ) : wt_H (wp_ap_exchange n x1 σ) (fun q => wt_H (wp_md_exchange n x1 q.2.2) (fun r => wu_RM r.2)) := by
  refine (wq_ap_exchange n hn x1 σ).h.imp (fun q hq => ?_)
  have fq := hq.1
  have v2 : wt_IV q.2.2 := wt_IV_cls v fq (fun k => (by (try dsimp only); first | omega | exact fun h => h | (intros; omega) | decide)) (fun i hi => (by (try dsimp only); first | omega | exact fun h => h | (intros; omega) | decide))
  refine (wt_H_and (wh_exchangeR n hn v2.1 v2.2.1) (wq_md_exchange n hn x1 q.2.2 v2.1 v2.2.1).h).imp (fun r hr0 => ?_)
  have hr := hr0.2
  have fr := hr.1
  have kv : wu_KV q.2.2 r.2 := hr0.1
  exact wu_RM_kv v.1 v2.1 j fq fr kv (fun i k h => by unfold wu_mF at h; (try dsimp only); first | omega | exact fun h => h) (fun i h => by unfold wu_mA at h; (try dsimp only); first | omega | exact fun h => h) (fun k => by (try dsimp only); first | omega | exact fun h => h) (fun i h => by (try dsimp only); first | omega | exact fun h => h) (fun i k h => by (try dsimp only); first | omega | exact fun h => h) (fun i h => by (try dsimp only); first | omega | exact fun h => h) (fun k h => by unfold wu_mG at h; (try dsimp only); first | omega | exact fun h => h) (fun i h h9 => by unfold wu_mB at h; (try dsimp only); first | omega | exact fun h => h)
set_option maxHeartbeats 4000000 in
theorem wk2_cast (n : Nat) (hn : 4294967297 < n) {σ : wt_St} (x1 x2 : Int32) (v : wt_IV σ) (j : wu_RM σ) : wt_H (wp_ap_cast n x1 x2 σ) (fun q => wt_H (wp_md_cast n x1 x2 q.2.2) (fun r => wu_RM r.2)) := by
  refine (wq_ap_cast n hn x1 x2 σ).h.imp (fun q hq => ?_)
  have fq := hq.1
  have v2 : wt_IV q.2.2 := wt_IV_cls v fq (fun k => (by (try dsimp only); first | omega | exact fun h => h | (intros; omega) | decide)) (fun i hi => (by (try dsimp only); first | omega | exact fun h => h | (intros; omega) | decide))
  refine (wt_H_and (wh_castR n hn v2.1 v2.2.1) (wq_md_cast n hn x1 x2 q.2.2 v2.1 v2.2.1).h).imp (fun r hr0 => ?_)
  have hr := hr0.2
  have fr := hr.1
  have kv : wu_KV q.2.2 r.2 := hr0.1
  exact wu_RM_kv v.1 v2.1 j fq fr kv (fun i k h => by unfold wu_mF at h; (try dsimp only); first | omega | exact fun h => h) (fun i h => by unfold wu_mA at h; (try dsimp only); first | omega | exact fun h => h) (fun k => by (try dsimp only); first | omega | exact fun h => h) (fun i h => by (try dsimp only); first | omega | exact fun h => h) (fun i k h => by (try dsimp only); first | omega | exact fun h => h) (fun i h => by (try dsimp only); first | omega | exact fun h => h) (fun k h => by unfold wu_mG at h; (try dsimp only); first | omega | exact fun h => h) (fun i h h9 => by unfold wu_mB at h; (try dsimp only); first | omega | exact fun h => h)
set_option maxHeartbeats 4000000 in
theorem wk2_together (n : Nat) (hn : 4294967297 < n) {σ : wt_St} (x1 : Int32) (v : wt_IV σ) (j : wu_RM σ) : wt_H (wp_ap_together n x1 σ) (fun q => wt_H (wp_md_together n x1 q.2.2) (fun r => wu_RM r.2)) := by
  refine (wq_ap_together n hn x1 σ).h.imp (fun q hq => ?_)
  have fq := hq.1
  have v2 : wt_IV q.2.2 := wt_IV_cls v fq (fun k => (by (try dsimp only); first | omega | exact fun h => h | (intros; omega) | decide)) (fun i hi => (by (try dsimp only); first | omega | exact fun h => h | (intros; omega) | decide))
  refine (wt_H_and (wh_togetherR n hn v2.1) (wq_md_together n hn x1 q.2.2 v2.1).h).imp (fun r hr0 => ?_)
  have hr := hr0.2
  have fr := hr.1
  have kv : wu_KV q.2.2 r.2 := wu_KV_K0 v2.2.1 (wu_SC_fr j.2.1 fq fq (fun k hk => by (try dsimp only); first | omega | exact fun h => h) (fun k hk => by (try dsimp only); first | omega | exact fun h => h) (fun i p q => by (try dsimp only); first | omega | exact fun h => h) (fun i hi => by (try dsimp only); first | omega | exact fun h => h)) hr0.1
  exact wu_RM_kv v.1 v2.1 j fq fr kv (fun i k h => by unfold wu_mF at h; (try dsimp only); first | omega | exact fun h => h) (fun i h => by unfold wu_mA at h; (try dsimp only); first | omega | exact fun h => h) (fun k => by (try dsimp only); first | omega | exact fun h => h) (fun i h => by (try dsimp only); first | omega | exact fun h => h) (fun i k h => by (try dsimp only); first | omega | exact fun h => h) (fun i h => by (try dsimp only); first | omega | exact fun h => h) (fun k h => by unfold wu_mG at h; (try dsimp only); first | omega | exact fun h => h) (fun i h h9 => by unfold wu_mB at h; (try dsimp only); first | omega | exact fun h => h)
end WTQ0
-- 96k.rmsp.lean.txt
section WTQ1
set_option maxHeartbeats 4000000 in
theorem wa2_habit (n : Nat) (hn : 4294967297 < n) {σ : wt_St} (x1 : Int32) (v : wt_IV σ) (j : wu_RM σ) : wt_H (wp_ap_habit n x1 σ) (fun q => wt_H (wp_md_habit n x1 q.2.2) (fun r => ((q.1 = 1 ∧ wt_gf r.2 108 0 = 1) ∨ (q.1 = 0 ∧ wt_gf r.2 108 0 = 0 ∧ q.2.1 = r.1)) ∧ wu_RM r.2)) := by
  intro q hq r hr
  obtain ⟨q', hq', hfq⟩ := wq_ap_habit n hn x1 σ
  rw [hq] at hq'
  cases hq'
  have fq := hfq.1
  have v2 : wt_IV q.2.2 := wt_IV_cls v fq (fun k => (by (try dsimp only); first | omega | exact fun h => h | (intros; omega) | decide)) (fun i hi => (by (try dsimp only); first | omega | exact fun h => h | (intros; omega) | decide))
  obtain ⟨r', hr', hfr⟩ := wq_md_habit n hn x1 q.2.2 v2.1
  rw [hr] at hr'
  cases hr'
  have fr := hfr.1
  have rr : wt_RI r.2 := hfr.2
  obtain ⟨lcm, scm, sim⟩ := wu_midM j v.1 fq (fun k => by (try dsimp only); first | omega | exact fun h => h) (fun i h => by (try dsimp only); first | omega | exact fun h => h)
  obtain ⟨an, sc⟩ := wr_habit n scm q r hq hr
  obtain ⟨lc, si⟩ := wu_LI_fr v.1 v2.1 j fq fr (fun i k h => by unfold wu_iF at h; (try dsimp only); first | omega | exact fun h => h) (fun i h => by unfold wu_iA at h; (try dsimp only); first | omega | exact fun h => h) (fun k => by (try dsimp only); first | omega | exact fun h => h) (fun i h => by (try dsimp only); first | omega | exact fun h => h) (fun i k h => by (try dsimp only); first | omega | exact fun h => h) (fun i h => by (try dsimp only); first | omega | exact fun h => h) (fun k h => by unfold wu_iG at h; (try dsimp only); first | omega | exact fun h => h) (fun i h => by unfold wu_iB at h; (try dsimp only); first | omega | exact fun h => h)
  exact ⟨an, lc, wu_endSC sc fr (fun i k h => by (try dsimp only); first | omega | exact fun h => h) (fun i h => by (try dsimp only); first | omega | exact fun h => h), si⟩
set_option maxHeartbeats 4000000 in
theorem wa2_want (n : Nat) (hn : 4294967297 < n) {σ : wt_St} (x1 x2 x3 x4 : Int32) (v : wt_IV σ) (tx : wu_TX σ σ) (j : wu_RM σ) : wt_H (wp_ap_want n x1 x2 x3 x4 σ) (fun q => wt_H (wp_md_want n x1 x2 x3 x4 q.2.2) (fun r => ((q.1 = 2 ∧ wt_gf r.2 108 0 = 1) ∨ (q.1 = 1 ∧ wt_gf r.2 108 0 = 2) ∨ (q.1 = 0 ∧ wt_gf r.2 108 0 = 0 ∧ q.2.1 = r.1)) ∧ wu_RM r.2)) := by
  intro q hq r hr
  obtain ⟨q', hq', hfq⟩ := wq_ap_want n hn x1 x2 x3 x4 σ
  rw [hq] at hq'
  cases hq'
  have fq := hfq.1
  have v2 : wt_IV q.2.2 := wt_IV_cls v fq (fun k => (by (try dsimp only); first | omega | exact fun h => h | (intros; omega) | decide)) (fun i hi => (by (try dsimp only); first | omega | exact fun h => h | (intros; omega) | decide))
  obtain ⟨r', hr', hfr⟩ := wq_md_want n hn x1 x2 x3 x4 q.2.2 v2.1
  rw [hr] at hr'
  cases hr'
  have fr := hfr.1
  have rr : wt_RI r.2 := hfr.2
  obtain ⟨lcm, scm, sim⟩ := wu_midM j v.1 fq (fun k => by (try dsimp only); first | omega | exact fun h => h) (fun i h => by (try dsimp only); first | omega | exact fun h => h)
  obtain ⟨an, sc⟩ := wr_want n v2.1 (tx.1.trans (fq.1 108 39 (by (try dsimp only); first | omega | exact fun h => h)).symm) scm q r hq hr
  obtain ⟨lc, si⟩ := wu_LI_fr v.1 v2.1 j fq fr (fun i k h => by unfold wu_iF at h; (try dsimp only); first | omega | exact fun h => h) (fun i h => by unfold wu_iA at h; (try dsimp only); first | omega | exact fun h => h) (fun k => by (try dsimp only); first | omega | exact fun h => h) (fun i h => by (try dsimp only); first | omega | exact fun h => h) (fun i k h => by (try dsimp only); first | omega | exact fun h => h) (fun i h => by (try dsimp only); first | omega | exact fun h => h) (fun k h => by unfold wu_iG at h; (try dsimp only); first | omega | exact fun h => h) (fun i h => by unfold wu_iB at h; (try dsimp only); first | omega | exact fun h => h)
  exact ⟨an, lc, wu_endSC sc fr (fun i k h => by (try dsimp only); first | omega | exact fun h => h) (fun i h => by (try dsimp only); first | omega | exact fun h => h), si⟩
set_option maxHeartbeats 4000000 in
theorem wa2_set (n : Nat) (hn : 4294967297 < n) {σ : wt_St} (x1 x2 : Int32) (v : wt_IV σ) (to : wt_TO σ σ) (tx : wu_TX σ σ) (j : wu_RM σ) : wt_H (wp_ap_set n x1 x2 σ) (fun q => wt_H (wp_md_set n x1 x2 q.2.2) (fun r => ((q.1 = 2 ∧ wt_gf r.2 108 0 = 1) ∨ (q.1 = 1 ∧ wt_gf r.2 108 0 = 2) ∨ (q.1 = 0 ∧ wt_gf r.2 108 0 = 0 ∧ q.2.1 = r.1)) ∧ wu_RM r.2)) := by
  intro q hq r hr
  obtain ⟨q', hq', hfq⟩ := wq_ap_set n hn x1 x2 σ
  rw [hq] at hq'
  cases hq'
  have fq := hfq.1
  have v2 : wt_IV q.2.2 := wt_IV_cls v fq (fun k => (by (try dsimp only); first | omega | exact fun h => h | (intros; omega) | decide)) (fun i hi => (by (try dsimp only); first | omega | exact fun h => h | (intros; omega) | decide))
  obtain ⟨r', hr', hfr⟩ := wq_md_set n hn x1 x2 q.2.2 v2.1
  rw [hr] at hr'
  cases hr'
  have fr := hfr.1
  have rr : wt_RI r.2 := hfr.2
  obtain ⟨lcm, scm, sim⟩ := wu_midM j v.1 fq (fun k => by (try dsimp only); first | omega | exact fun h => h) (fun i h => by (try dsimp only); first | omega | exact fun h => h)
  obtain ⟨-, txm⟩ := wu_mid to tx v.1 fq (fun k => by (try dsimp only); first | omega | exact fun h => h) (fun i h => by (try dsimp only); first | omega | exact fun h => h)
  obtain ⟨an, sc⟩ := wr_set n hn v2 txm lcm scm q r hq hr
  obtain ⟨lc, si⟩ := wu_LI_fr v.1 v2.1 j fq fr (fun i k h => by unfold wu_iF at h; (try dsimp only); first | omega | exact fun h => h) (fun i h => by unfold wu_iA at h; (try dsimp only); first | omega | exact fun h => h) (fun k => by (try dsimp only); first | omega | exact fun h => h) (fun i h => by (try dsimp only); first | omega | exact fun h => h) (fun i k h => by (try dsimp only); first | omega | exact fun h => h) (fun i h => by (try dsimp only); first | omega | exact fun h => h) (fun k h => by unfold wu_iG at h; (try dsimp only); first | omega | exact fun h => h) (fun i h => by unfold wu_iB at h; (try dsimp only); first | omega | exact fun h => h)
  exact ⟨an, lc, wu_endSC sc fr (fun i k h => by (try dsimp only); first | omega | exact fun h => h) (fun i h => by (try dsimp only); first | omega | exact fun h => h), si⟩
set_option maxHeartbeats 4000000 in
theorem wa2_print (n : Nat) (hn : 4294967297 < n) {σ : wt_St} (x1 x2 : Int32) (v : wt_IV σ) (j : wu_RM σ) : wt_H (wp_ap_print n x1 x2 σ) (fun q => wt_H (wp_md_print n x1 x2 q.2.2) (fun r => ((q.1 = 2 ∧ wt_gf r.2 108 0 = 1) ∨ (q.1 = 1 ∧ wt_gf r.2 108 0 = 2) ∨ (q.1 = 0 ∧ wt_gf r.2 108 0 = 0 ∧ q.2.1 = r.1)) ∧ wu_RM r.2)) := by
  intro q hq r hr
  obtain ⟨q', hq', hfq⟩ := wq_ap_print n hn x1 x2 σ
  rw [hq] at hq'
  cases hq'
  have fq := hfq.1
  have v2 : wt_IV q.2.2 := wt_IV_cls v fq (fun k => (by (try dsimp only); first | omega | exact fun h => h | (intros; omega) | decide)) (fun i hi => (by (try dsimp only); first | omega | exact fun h => h | (intros; omega) | decide))
  obtain ⟨r', hr', hfr⟩ := wq_md_print n hn x1 x2 q.2.2 v2.1 v2.2.2.2.1
  rw [hr] at hr'
  cases hr'
  have fr := hfr.1
  have rr : wt_RI r.2 := hfr.2
  obtain ⟨lcm, scm, sim⟩ := wu_midM j v.1 fq (fun k => by (try dsimp only); first | omega | exact fun h => h) (fun i h => by (try dsimp only); first | omega | exact fun h => h)
  obtain ⟨an, sc⟩ := wr_print n hn v2 scm q r hq hr
  obtain ⟨lc, si⟩ := wu_LI_fr v.1 v2.1 j fq fr (fun i k h => by unfold wu_iF at h; (try dsimp only); first | omega | exact fun h => h) (fun i h => by unfold wu_iA at h; (try dsimp only); first | omega | exact fun h => h) (fun k => by (try dsimp only); first | omega | exact fun h => h) (fun i h => by (try dsimp only); first | omega | exact fun h => h) (fun i k h => by (try dsimp only); first | omega | exact fun h => h) (fun i h => by (try dsimp only); first | omega | exact fun h => h) (fun k h => by unfold wu_iG at h; (try dsimp only); first | omega | exact fun h => h) (fun i h => by unfold wu_iB at h; (try dsimp only); first | omega | exact fun h => h)
  exact ⟨an, lc, wu_endSC sc fr (fun i k h => by (try dsimp only); first | omega | exact fun h => h) (fun i h => by (try dsimp only); first | omega | exact fun h => h), si⟩
set_option maxHeartbeats 4000000 in
theorem wa2_apart (n : Nat) (hn : 4294967297 < n) {σ : wt_St} (x1 : Int32) (v : wt_IV σ) (j : wu_RM σ) : wt_H (wp_ap_apart n x1 σ) (fun q => wt_H (wp_md_apart n x1 q.2.2) (fun r => ((q.1 = 2 ∧ wt_gf r.2 108 0 = 1) ∨ (q.1 = 0 ∧ wt_gf r.2 108 0 = 0 ∧ q.2.1 = r.1)) ∧ wu_RM r.2)) := by
  intro q hq r hr
  obtain ⟨q', hq', hfq⟩ := wq_ap_apart n hn x1 σ
  rw [hq] at hq'
  cases hq'
  have fq := hfq.1
  have v2 : wt_IV q.2.2 := wt_IV_cls v fq (fun k => (by (try dsimp only); first | omega | exact fun h => h | (intros; omega) | decide)) (fun i hi => (by (try dsimp only); first | omega | exact fun h => h | (intros; omega) | decide))
  obtain ⟨r', hr', hfr⟩ := wq_md_apart n hn x1 q.2.2 v2.1
  rw [hr] at hr'
  cases hr'
  have fr := hfr.1
  have rr : wt_RI r.2 := hfr.2
  obtain ⟨lcm, scm, sim⟩ := wu_midM j v.1 fq (fun k => by (try dsimp only); first | omega | exact fun h => h) (fun i h => by (try dsimp only); first | omega | exact fun h => h)
  obtain ⟨an, sc⟩ := wr_apart n hn v2 scm q r hq hr
  obtain ⟨lc, si⟩ := wu_LI_fr v.1 v2.1 j fq fr (fun i k h => by unfold wu_iF at h; (try dsimp only); first | omega | exact fun h => h) (fun i h => by unfold wu_iA at h; (try dsimp only); first | omega | exact fun h => h) (fun k => by (try dsimp only); first | omega | exact fun h => h) (fun i h => by (try dsimp only); first | omega | exact fun h => h) (fun i k h => by (try dsimp only); first | omega | exact fun h => h) (fun i h => by (try dsimp only); first | omega | exact fun h => h) (fun k h => by unfold wu_iG at h; (try dsimp only); first | omega | exact fun h => h) (fun i h => by unfold wu_iB at h; (try dsimp only); first | omega | exact fun h => h)
  exact ⟨an, lc, wu_endSC sc fr (fun i k h => by (try dsimp only); first | omega | exact fun h => h) (fun i h => by (try dsimp only); first | omega | exact fun h => h), si⟩
set_option maxHeartbeats 4000000 in
theorem wa2_forget (n : Nat) (hn : 4294967297 < n) {σ : wt_St} (v : wt_IV σ) (j : wu_RM σ) : wt_H (wp_ap_forget n σ) (fun q => wt_H (wp_md_forget n q.2) (fun r => q.1 = r.1 ∧ wu_RM r.2)) := by
  intro q hq r hr
  obtain ⟨q', hq', hfq⟩ := wq_ap_forget n hn σ
  rw [hq] at hq'
  cases hq'
  have fq := hfq
  have v2 : wt_IV q.2 := wt_IV_cls v fq (fun k => (by (try dsimp only); first | omega | exact fun h => h | (intros; omega) | decide)) (fun i hi => (by (try dsimp only); first | omega | exact fun h => h | (intros; omega) | decide))
  obtain ⟨r', hr', hfr⟩ := wq_md_forget n hn q.2 v2.1
  rw [hr] at hr'
  cases hr'
  have fr := hfr.1
  have rr : wt_RI r.2 := hfr.2
  obtain ⟨lcm, scm, sim⟩ := wu_midM j v.1 fq (fun k => by (try dsimp only); first | omega | exact fun h => h) (fun i h => by (try dsimp only); first | omega | exact fun h => h)
  obtain ⟨an, sc⟩ := wr_forget n scm q r hq hr
  obtain ⟨lc, si⟩ := wu_LI_fr v.1 v2.1 j fq fr (fun i k h => by unfold wu_iF at h; (try dsimp only); first | omega | exact fun h => h) (fun i h => by unfold wu_iA at h; (try dsimp only); first | omega | exact fun h => h) (fun k => by (try dsimp only); first | omega | exact fun h => h) (fun i h => by (try dsimp only); first | omega | exact fun h => h) (fun i k h => by (try dsimp only); first | omega | exact fun h => h) (fun i h => by (try dsimp only); first | omega | exact fun h => h) (fun k h => by unfold wu_iG at h; (try dsimp only); first | omega | exact fun h => h) (fun i h => by unfold wu_iB at h; (try dsimp only); first | omega | exact fun h => h)
  exact ⟨an, lc, wu_endSC sc fr (fun i k h => by (try dsimp only); first | omega | exact fun h => h) (fun i h => by (try dsimp only); first | omega | exact fun h => h), si⟩
set_option maxHeartbeats 4000000 in
theorem wk2_kase (n : Nat) (hn : 4294967297 < n) {σ : wt_St} (x1 : Int32) (v : wt_IV σ) (ti : (wt_gf σ 1 2).toInt = (wt_gf σ 108 1).toInt) (jt : wt_JT σ) (j : wu_RM σ) : wt_H (wp_ap_kase n x1 σ) (fun q => wt_H (wp_md_kase n x1 q.2.2) (fun r => wu_RM r.2)) := by
  intro q hq r hr
  obtain ⟨q', hq', hfq⟩ := wq_ap_kase n hn x1 σ
  rw [hq] at hq'
  cases hq'
  have fq := hfq.1
  have v2 : wt_IV q.2.2 := wt_IV_cls v fq (fun k => (by (try dsimp only); first | omega | exact fun h => h | (intros; omega) | decide)) (fun i hi => (by (try dsimp only); first | omega | exact fun h => h | (intros; omega) | decide))
  obtain ⟨r', hr', hfr⟩ := wq_md_kase n hn x1 q.2.2 v2.1 v2.2.1
  rw [hr] at hr'
  cases hr'
  have fr := hfr.1
  have rr : wt_RI r.2 := hfr.2.1
  obtain ⟨lcm, scm, sim⟩ := wu_midM j v.1 fq (fun k => by (try dsimp only); first | omega | exact fun h => h) (fun i h => by (try dsimp only); first | omega | exact fun h => h)
  have tb : wt_TB σ q.2.2 := ⟨fun i hi => by rw [fq.2 109 (by (try dsimp only); omega)]; exact jt i hi, wt_eqI (by rw [fq.1 108 1 (by (try dsimp only); omega)]; exact ti)⟩
  obtain ⟨-, a, b, c⟩ := wr_kaseR n hn v2 tb lcm scm sim q r hq hr
  exact ⟨wu_endLC a fr (fun i k h => by (try dsimp only); first | omega | exact fun h => h) (fun i h => by (try dsimp only); first | omega | exact fun h => h), wu_endSC b fr (fun i k h => by (try dsimp only); first | omega | exact fun h => h) (fun i h => by (try dsimp only); first | omega | exact fun h => h), wu_endSI c rr fr (fun i k h => by (try dsimp only); first | omega | exact fun h => h) (fun i h => by (try dsimp only); first | omega | exact fun h => h)⟩
set_option maxHeartbeats 4000000 in
theorem wk2_tongue (n : Nat) (hn : 4294967297 < n) {σ : wt_St} (x1 : Int32) (v : wt_IV σ) (ti : (wt_gf σ 1 2).toInt = (wt_gf σ 108 1).toInt) (jt : wt_JT σ) (j : wu_RM σ) : wt_H (wp_ap_tongue n x1 σ) (fun q => wt_H (wp_md_tongue n x1 q.2.2) (fun r => wu_RM r.2)) := by
  intro q hq r hr
  obtain ⟨q', hq', hfq⟩ := wq_ap_tongue n hn x1 σ
  rw [hq] at hq'
  cases hq'
  have fq := hfq.1
  have v2 : wt_IV q.2.2 := wt_IV_cls v fq (fun k => (by (try dsimp only); first | omega | exact fun h => h | (intros; omega) | decide)) (fun i hi => (by (try dsimp only); first | omega | exact fun h => h | (intros; omega) | decide))
  obtain ⟨r', hr', hfr⟩ := wq_md_tongue n hn x1 q.2.2 v2.1
  rw [hr] at hr'
  cases hr'
  have fr := hfr.1
  have rr : wt_RI r.2 := hfr.2.1
  obtain ⟨lcm, scm, sim⟩ := wu_midM j v.1 fq (fun k => by (try dsimp only); first | omega | exact fun h => h) (fun i h => by (try dsimp only); first | omega | exact fun h => h)
  have tb : wt_TB σ q.2.2 := ⟨fun i hi => by rw [fq.2 109 (by (try dsimp only); omega)]; exact jt i hi, wt_eqI (by rw [fq.1 108 1 (by (try dsimp only); omega)]; exact ti)⟩
  obtain ⟨a, b, c⟩ := wr_tongueR n hn v2 tb lcm scm sim q r hq hr
  exact ⟨wu_endLC a fr (fun i k h => by (try dsimp only); first | omega | exact fun h => h) (fun i h => by (try dsimp only); first | omega | exact fun h => h), wu_endSC b fr (fun i k h => by (try dsimp only); first | omega | exact fun h => h) (fun i h => by (try dsimp only); first | omega | exact fun h => h), wu_endSI c rr fr (fun i k h => by (try dsimp only); first | omega | exact fun h => h) (fun i h => by (try dsimp only); first | omega | exact fun h => h)⟩
set_option maxHeartbeats 4000000 in
theorem wk2_image (n : Nat) (hn : 4294967297 < n) {σ : wt_St} (v : wt_IV σ) (j : wu_RM σ) : wt_H (wp_ap_image n σ) (fun q => wt_H (wp_md_image n q.2) (fun r => wu_RM r.2)) := by
  intro q hq r hr
  obtain ⟨q', hq', hfq⟩ := wq_ap_image n hn σ
  rw [hq] at hq'
  cases hq'
  have fq := hfq
  have v2 : wt_IV q.2 := wt_IV_cls v fq (fun k => (by (try dsimp only); first | omega | exact fun h => h | (intros; omega) | decide)) (fun i hi => (by (try dsimp only); first | omega | exact fun h => h | (intros; omega) | decide))
  have fr := wf_md_image n hn v2 r hr
  have rr : wt_RI r.2 := (((wq_md_image n hn q.2 v2).h) r hr).1.1
  obtain ⟨lcm, scm, sim⟩ := wu_midM j v.1 fq (fun k => by (try dsimp only); first | omega | exact fun h => h) (fun i h => by (try dsimp only); first | omega | exact fun h => h)
  obtain ⟨-, sc, si⟩ := wr_image n hn v2 scm sim q r hq hr
  have lcq : wu_LC q.2 q.2 := wu_LC_fr j.1 fq fq (by (try dsimp only); first | omega | exact fun h => h) (fun i h => by (try dsimp only); first | omega | exact fun h => h) (by (try dsimp only); first | omega | exact fun h => h) (fun i h => by (try dsimp only); first | omega | exact fun h => h)
  have lc : wu_LC r.2 r.2 := wu_LC_fr lcq fr fr (by unfold wt_iF; omega) (fun i h => by unfold wt_iA; omega) (by unfold wt_iF; omega) (fun i h => by unfold wt_iA; omega)
  exact ⟨lc, wu_endSC sc fr (fun i k h => by unfold wt_iF; omega) (fun i h => by unfold wt_iA; omega), wu_endSI si rr fr (fun i k h => by unfold wt_iF; omega) (fun i h => by unfold wt_iA; omega)⟩
set_option maxHeartbeats 4000000 in
theorem wk2_restore (n : Nat) (hn : 4294967297 < n) {σ : wt_St} (v : wt_IV σ) (j : wu_RM σ) : wt_H (wp_ap_restore n σ) (fun q => wt_H (wp_md_restore n q.2) (fun r => wu_RM r.2)) := by
  intro q hq r hr
  obtain ⟨q', hq', hfq⟩ := wq_ap_restore n hn σ
  rw [hq] at hq'
  cases hq'
  have fq := hfq
  have v2 : wt_IV q.2 := wt_IV_cls v fq (fun k => (by (try dsimp only); first | omega | exact fun h => h | (intros; omega) | decide)) (fun i hi => (by (try dsimp only); first | omega | exact fun h => h | (intros; omega) | decide))
  have fr := wf_md_restore n hn v2 r hr
  have rr : wt_RI r.2 := (((wq_md_restore n hn q.2 v2).h) r hr).1.1
  obtain ⟨lcm, scm, sim⟩ := wu_midM j v.1 fq (fun k => by (try dsimp only); first | omega | exact fun h => h) (fun i h => by (try dsimp only); first | omega | exact fun h => h)
  obtain ⟨-, sc, si⟩ := wr_restore n hn v2 scm sim q r hq hr
  have lcq : wu_LC q.2 q.2 := wu_LC_fr j.1 fq fq (by (try dsimp only); first | omega | exact fun h => h) (fun i h => by (try dsimp only); first | omega | exact fun h => h) (by (try dsimp only); first | omega | exact fun h => h) (fun i h => by (try dsimp only); first | omega | exact fun h => h)
  have lc : wu_LC r.2 r.2 := wu_LC_fr lcq fr fr (by unfold wt_iF; omega) (fun i h => by unfold wt_iA; omega) (by unfold wt_iF; omega) (fun i h => by unfold wt_iA; omega)
  exact ⟨lc, wu_endSC sc fr (fun i k h => by unfold wt_iF; omega) (fun i h => by unfold wt_iA; omega), wu_endSI si rr fr (fun i k h => by unfold wt_iF; omega) (fun i h => by unfold wt_iA; omega)⟩
set_option maxHeartbeats 4000000 in
theorem wk2_text (n : Nat) (hn : 4294967297 < n) {σ : wt_St} (x1 : Int32) (v : wt_IV σ) (j : wu_RM σ) : wt_H (wp_ap_text n x1 σ) (fun q => wt_H (wp_md_text n x1 q.2.2) (fun r => wu_RM r.2)) := by
  intro q hq r hr
  obtain ⟨q', hq', hfq⟩ := wq_ap_text n hn x1 σ
  rw [hq] at hq'
  cases hq'
  have fq := hfq.1
  have v2 : wt_IV q.2.2 := wt_IV_cls v fq (fun k => by (try dsimp only); omega) (fun i hi => by (try dsimp only); omega)
  obtain ⟨r', hr', hfr⟩ := wq_md_text n hn x1 q.2.2 v2.1
  rw [hr] at hr'
  cases hr'
  have fr := hfr.1
  have x := wq_md_textH n hn x1 q.2.2 v2.1 r hr
  obtain ⟨a, b, c⟩ := j
  have g41 : 0 ≤ (wt_gf q.2.2 108 41).toInt ∧ (wt_gf q.2.2 108 41).toInt ≤ 3 := wt_Rf9 v2.1
  have g41' : 0 ≤ (wt_gf σ 108 41).toInt ∧ (wt_gf σ 108 41).toInt ≤ 3 := wt_Rf9 v.1
  have a1 : wu_LC q.2.2 q.2.2 := wu_LC_fr a fq fq (by (try dsimp only); omega) (fun i h => by (try dsimp only); omega) (by (try dsimp only); omega) (fun i h => by (try dsimp only); omega)
  have b1 : wu_SC q.2.2 q.2.2 := wu_SC_fr b fq fq (fun k hk => by (try dsimp only); omega) (fun k hk => by (try dsimp only); omega) (fun i p q => by (try dsimp only); omega) (fun i hi => by (try dsimp only); omega)
  have c1 : wu_SI q.2.2 q.2.2 := wu_SI_fr c fq fq g41'.2 (fun i k h => by (try dsimp only); omega) (fun k h => by (try dsimp only); omega) (fun i p q => by (try dsimp only); omega) (fun i h => by (try dsimp only); omega)
  refine ⟨wu_LC_fr a1 fr fr (by (try dsimp only); omega) (fun i h => by (try dsimp only); omega) (by (try dsimp only); omega) (fun i h => by (try dsimp only); omega), ?_, ?_⟩
  · exact wu_SC_eq b1 (fun i p q => fr.2 i (by (try dsimp only); omega)) (fun i hi => fr.2 i (by (try dsimp only); omega)) (fun k hk => fr.1 39 k (by (try dsimp only); omega)) (fun k hk => fr.1 108 k (by (try dsimp only); omega)) x.1
  · exact wu_SI_eq c1 (fr.1 0 14 (by (try dsimp only); omega)) (fr.1 108 41 (by (try dsimp only); omega)) (fun i p q => fr.2 i (by (try dsimp only); omega)) (fun i hi => ⟨fr.1 i 8 (by (try dsimp only); omega), fr.1 i 9 (by (try dsimp only); omega)⟩) (fun i p q => fr.2 i (by (try dsimp only); omega)) (fr.2 111 (by (try dsimp only); omega)) x.1 g41.2
end WTQ1
-- 96v.rows.lean.txt
section WTQ2
/-! the wordings of a text: what both sides know of it -/
theorem wt_sum_split {g : Nat → Int} (a : Nat) : ∀ b : Nat, wt_sum g (a + b) = wt_sum g a + wt_sum (fun k => g (a + k)) b := by
  intro b
  induction b with
  | zero => show wt_sum g a = wt_sum g a + 0; omega
  | succ b ih =>
    show wt_sum g (a + b) + g (a + b) = wt_sum g a + (wt_sum (fun k => g (a + k)) b + g (a + b))
    omega
theorem wt_sum_z {f : Nat → Int} (m : Nat) (h : ∀ k, k < m → f k = 0) : wt_sum f m = 0 := by
  have := wt_sum_bd (f := f) (c := 0) m (fun k hk => by rw [h k hk]; omega)
  omega
theorem wu_sum_seg {g : Nat → Int} {F S W : Nat} (h : F + S ≤ W) (lo : ∀ v, v < F → g v = 0) (hi : ∀ v, F + S ≤ v → v < W → g v = 0) : wt_sum g W = wt_sum (fun k => g (F + k)) S := by
  obtain ⟨r, hr⟩ : ∃ r, W = F + S + r := ⟨W - F - S, by omega⟩
  rw [hr, wt_sum_split, wt_sum_split, wt_sum_z F (fun k hk => lo k hk), wt_sum_z r (fun k hk => hi (F + S + k) (by omega) (by omega))]
  omega
/-- a text's words, their groups and marks -/
def wu_RW (s z : wt_St) (t m W G : Nat) (o : Nat → Nat) : Prop := (t < 8 ∧ 1 ≤ m ∧ m ≤ 12 ∧ W ≤ 60 ∧ G ≤ 20) ∧ ((wt_ga s 36 t).toInt = (m : Int) ∧ (wt_ga z 253 t).toInt = (m : Int) ∧ (wt_gf z 108 28).toInt = (W : Int)) ∧ (∀ i, i < m → o i < W ∧ (wt_ga s 35 (12 * t + i)).toInt = (o i : Int) ∧ (wt_ga z (255 + t) i).toInt = (o i : Int)) ∧ wt_tt 20 126 128 130 193 W s z ∧ wt_gs 20 W G s ∧ (∀ k, k < 4 → wt_ga s 11 k = wt_ga z 119 k) ∧ ∀ l, l < 26 → wt_ga s 9 l = wt_ga z 115 l
theorem wu_RW_of {s z : wt_St} {t : Nat} (to : wt_TO s z) (lc : wu_LC s z) (tx : wu_TX s z) (r : wt_RI z) (ht : (t : Int) < (wt_gf z 108 39).toInt) : ∃ (m W G : Nat) (o : Nat → Nat), wu_RW s z t m W G o := by
  have hz : 0 ≤ (wt_gf z 108 39).toInt ∧ (wt_gf z 108 39).toInt ≤ 8 := wt_Rf7 r
  obtain ⟨m, m1, m2, m3, m4, m5, -⟩ := tx.2 t ht
  obtain ⟨W, G, ⟨-, w2, w3⟩, ⟨-, -, g3⟩, tt, gs⟩ := to
  refine ⟨m, W, G, fun i => Int32.toNatClampNeg (wt_ga s 35 (12 * t + i)), ⟨by omega, m3, m4, w3, g3⟩, ⟨m1, by rw [m2]; exact m1, w2⟩, fun i hi => ?_, tt, gs, lc.2.2.2.2.1, lc.2.2.1⟩
  obtain ⟨a, b, c⟩ := m5 i hi
  have e := wt_tnI b
  refine ⟨by show Int32.toNatClampNeg (wt_ga s 35 (12 * t + i)) < W; omega, e.symm, by rw [← a]; exact e.symm⟩
theorem wt_gs_eqr {t W G : Nat} {s s' : wt_St} (h : wt_gs t W G s) (e : ∀ i, t + 3 < i → i < t + 7 → ∀ j, wt_ga s' i j = wt_ga s i j) : wt_gs t W G s' := by
  unfold wt_gs
  rw [funext (e (t + 4) (by omega) (by omega)), funext (e (t + 5) (by omega) (by omega)), funext (e (t + 6) (by omega) (by omega))]
  exact h
theorem wu_RW_fr {s s' z z' : wt_St} {t m W G : Nat} {o : Nat → Nat} {F F' : Nat → Nat → Prop} {A A' : Nat → Prop} (h : wu_RW s z t m W G o) (f : wt_fr F A s s') (g : wt_fr F' A' z z') (hA : ∀ i, i < 40 → ¬ A i) (hF' : ¬ F' 108 28) (hA' : ∀ i, i < 264 → ¬ A' i) : wu_RW s' z' t m W G o := by
  obtain ⟨h0, ⟨h1, h2, h3⟩, h4, h5, h6, h7, h8⟩ := h
  refine ⟨h0, ⟨by rw [f.2 36 (hA _ (by omega))]; exact h1, by rw [g.2 253 (hA' _ (by omega))]; exact h2, by rw [g.1 108 28 hF']; exact h3⟩, fun i hi => by rw [f.2 35 (hA _ (by omega)), g.2 (255 + t) (hA' _ (by omega))]; exact h4 i hi, wt_tt_fr h5 f g (fun i a b => hA i (by omega)) (fun i a => hA' i (by omega)), wt_gs_eqr h6 (fun i a b => f.2 i (hA i (by omega))), fun k hk => by rw [f.2 11 (hA _ (by omega)), g.2 119 (hA' _ (by omega))]; exact h7 k hk, fun l hl => by rw [f.2 9 (hA _ (by omega)), g.2 115 (hA' _ (by omega))]; exact h8 l hl⟩
/-- the first of a word's group, how many they are, who is one of it, who may follow -/
def wu_F (s : wt_St) (w : Nat) : Nat := Int32.toNatClampNeg (wt_ga s 25 (Int32.toNatClampNeg (wt_ga s 24 w)))
def wu_Z (s : wt_St) (w : Nat) : Nat := Int32.toNatClampNeg (wt_ga s 26 (Int32.toNatClampNeg (wt_ga s 24 w)))
def wu_of (s : wt_St) (w v : Nat) : Bool := decide (wt_ga s 24 v = wt_ga s 24 w)
def wu_mf (s : wt_St) (w v : Nat) : Bool := decide ((((wt_ga s 11 (Int32.toNatClampNeg (wt_ga s 23 w))) >>> ((wt_ga s 23 v) &&& 31)) &&& (1 : Int32)) = 0)
theorem wu_grp {s : wt_St} {W G w : Nat} (gs : wt_gs 20 W G s) (hG : G ≤ 20) (hW : W ≤ 60) (hw : w < W) : (Int32.toNatClampNeg (wt_ga s 24 w) < G ∧ (wt_ga s 24 w).toInt = ((Int32.toNatClampNeg (wt_ga s 24 w) : Nat) : Int)) ∧ ((wt_ga s 25 (Int32.toNatClampNeg (wt_ga s 24 w))).toInt = (wu_F s w : Int) ∧ (wt_ga s 26 (Int32.toNatClampNeg (wt_ga s 24 w))).toInt = (wu_Z s w : Int)) ∧ (1 ≤ wu_Z s w ∧ wu_Z s w ≤ 5 ∧ wu_F s w + wu_Z s w ≤ W) ∧ ∀ v, v < W → (wu_of s w v = true ↔ wu_F s w ≤ v ∧ v < wu_F s w + wu_Z s w) := by
  obtain ⟨a, b⟩ := gs.2 w hw
  have e := wt_tnI a
  obtain ⟨f, m, f1, f2, f3, f4, f5, f6⟩ := gs.1 (Int32.toNatClampNeg (wt_ga s 24 w)) (by show Int32.toNatClampNeg (wt_ga s (20 + 4) w) < G; omega)
  have eF : wu_F s w = f := wt_tnN f1
  have eZ : wu_Z s w = m := wt_tnN f2
  rw [eF, eZ]
  refine ⟨⟨by show Int32.toNatClampNeg (wt_ga s (20 + 4) w) < G; omega, e.symm⟩, ⟨f1, f2⟩, ⟨f3, f4, f5⟩, fun v hv => ?_⟩
  have h := f6 v hv
  unfold wu_of
  rw [decide_eq_true_iff, ← h]
  constructor
  · intro q
    show (wt_ga s 24 v).toInt = _
    rw [q]
    exact e.symm
  · intro q
    refine wt_eqI ?_
    have q' : (wt_ga s 24 v).toInt = ((Int32.toNatClampNeg (wt_ga s 24 w) : Nat) : Int) := q
    rw [q']
    exact e
theorem wh_members (n : Nat) (hn : 4294967297 < n) {s : wt_St} {W G w : Nat} {x : Int32} (gs : wt_gs 20 W G s) (hG : G ≤ 20) (hW : W ≤ 60) (hw : w < W) (hx : x.toInt = (w : Int)) : wt_H (wp_tg_membersLike n 20 x s) (fun q => q.2 = s ∧ q.1.toInt = (wu_Z s w : Int)) := by
  obtain ⟨⟨a, b⟩, ⟨-, c⟩, -, -⟩ := wu_grp gs hG hW hw
  unfold wp_tg_membersLike
  refine wt_H_bh (wh_look n hn (a := 20 + 4) (k := w) hx (by rw [show wt_ln (20 + 4) = 60 from by decide]; omega)) (fun q hq => ?_)
  subst hq
  refine wt_H_bh (wh_look n hn (a := 20 + 6) (k := Int32.toNatClampNeg (wt_ga s 24 w)) b (by rw [show wt_ln (20 + 6) = 20 from by decide]; omega)) (fun q hq => ?_)
  subst hq
  exact wt_H_some ⟨rfl, c⟩
theorem wh_first (n : Nat) (hn : 4294967297 < n) {s : wt_St} {W G w : Nat} {x : Int32} (gs : wt_gs 20 W G s) (hG : G ≤ 20) (hW : W ≤ 60) (hw : w < W) (hx : x.toInt = (w : Int)) : wt_H (wp_tg_firstLike n 20 x s) (fun q => q.2 = s ∧ q.1.toInt = (wu_F s w : Int)) := by
  obtain ⟨⟨a, b⟩, ⟨c, -⟩, -, -⟩ := wu_grp gs hG hW hw
  unfold wp_tg_firstLike
  refine wt_H_bh (wh_look n hn (a := 20 + 4) (k := w) hx (by rw [show wt_ln (20 + 4) = 60 from by decide]; omega)) (fun q hq => ?_)
  subst hq
  refine wt_H_bh (wh_look n hn (a := 20 + 5) (k := Int32.toNatClampNeg (wt_ga s 24 w)) b (by rw [show wt_ln (20 + 5) = 20 from by decide]; omega)) (fun q hq => ?_)
  subst hq
  exact wt_H_some ⟨rfl, c⟩
theorem wh_lengthOf (n : Nat) (hn : 4294967297 < n) {s : wt_St} {t m : Nat} {x : Int32} (hx : x.toInt = (t : Int)) (ht : t < 8) (hm : (wt_ga s 36 t).toInt = (m : Int)) : wt_H (wp_tx_lengthOf n x s) (fun q => q.2 = s ∧ q.1.toInt = (m : Int)) := by
  unfold wp_tx_lengthOf
  refine wt_H_bh (wh_look n hn (k := t) hx (by rw [show wt_ln 36 = 8 from by decide]; exact ht)) (fun q hq => ?_)
  subst hq
  exact wt_H_some ⟨rfl, hm⟩
theorem wh_wordAtR (n : Nat) (hn : 4294967297 < n) {s z : wt_St} {t m W G i : Nat} {o : Nat → Nat} {x y : Int32} (R : wu_RW s z t m W G o) (hx : x.toInt = (t : Int)) (hy : y.toInt = (i : Int)) (hi : i < m) : wt_H (wp_tx_wordAt n x y s) (fun q => q.2 = s ∧ q.1.toInt = (o i : Int)) := by
  have k12 : (12 : Int32).toInt = 12 := by decide
  have k0 : (0 : Int32).toInt = 0 := by decide
  obtain ⟨⟨h1, h2, h3, h4, h5⟩, ⟨h6, -⟩, h8, -⟩ := R
  unfold wp_tx_wordAt
  rw [if_neg (show ¬ y < 0 from fun h => by have := wt_clt h; omega)]
  refine wt_H_bh (wh_lengthOf n hn hx h1 h6) (fun q hq => ?_)
  rw [if_neg (show ¬ q.1 ≤ y from fun h => by have := wt_cle h; omega), hq.1]
  have em := wt_mulR (x := x) k12 (by omega) (by omega)
  have ea := wt_addE (x := x * (12 : Int32)) (y := y) (by omega) (by omega)
  refine wt_H_bh (wh_look n hn (k := 12 * t + i) (by omega) (by rw [show wt_ln 35 = 96 from by decide]; omega)) (fun q hq => ?_)
  subst hq
  exact wt_H_some ⟨rfl, (h8 i hi).2.1⟩
theorem wh_mayC (n : Nat) (hn : 4294967297 < n) {s z : wt_St} {t m W G w v : Nat} {o : Nat → Nat} {x y : Int32} (R : wu_RW s z t m W G o) (hx : x.toInt = (w : Int)) (hy : y.toInt = (v : Int)) (hw : w < W) (hv : v < W) : wt_H (wp_rw_mayFollow n x y s) (fun q => q.2 = s ∧ ((q.1 = 1 ∧ wu_mf s w v = true) ∨ (q.1 = 0 ∧ wu_mf s w v = false))) := by
  obtain ⟨⟨-, -, -, h4, -⟩, -, -, tt, -⟩ := R
  obtain ⟨-, -, -, -, b1, -⟩ := tt w hw
  have b1' : 0 ≤ (wt_ga s 23 w).toInt ∧ (wt_ga s 23 w).toInt ≤ 3 := b1
  have e := wt_tnI b1'.1
  unfold wp_rw_mayFollow wp_ld_mayFollow
  rw [if_neg (show ¬ x = (-1 : Int32) from fun h => by rw [h, wt_lm1] at hx; omega)]
  refine wt_H_bh (wh_look n hn (k := w) hx (by rw [show wt_ln 23 = 60 from by decide]; omega)) (fun q hq => ?_)
  subst hq
  refine wt_H_bh (wh_look n hn (k := v) hy (by rw [show wt_ln 23 = 60 from by decide]; omega)) (fun q hq => ?_)
  subst hq
  simp only [Option.bind_assoc]
  refine wt_H_bh (wh_look n hn (a := 4 + 7) (k := Int32.toNatClampNeg (wt_ga s 23 w)) e.symm (by rw [show wt_ln (4 + 7) = 4 from by decide]; omega)) (fun q hq => ?_)
  subst hq
  dsimp only
  by_cases c : (((wt_ga s (4 + 7) (Int32.toNatClampNeg (wt_ga s 23 w))) >>> ((wt_ga s 23 v) &&& 31)) &&& (1 : Int32)) = 0
  · rw [if_pos c]
    show wt_H (if (1 : Int32) = 0 then some ((0 : Int32), s) else some ((1 : Int32), s)) _
    rw [if_neg (show ¬ (1 : Int32) = 0 by decide)]
    exact wt_H_some ⟨rfl, Or.inl ⟨rfl, decide_eq_true c⟩⟩
  · rw [if_neg c]
    show wt_H (if (0 : Int32) = 0 then some ((0 : Int32), s) else some ((1 : Int32), s)) _
    rw [if_pos (show (0 : Int32) = 0 from rfl)]
    exact wt_H_some ⟨rfl, Or.inr ⟨rfl, decide_eq_false c⟩⟩
theorem wh_mayM (n : Nat) {s z : wt_St} {t m W G w v : Nat} {o : Nat → Nat} {x y : Int32} (R : wu_RW s z t m W G o) (hx : x.toInt = (w : Int)) (hy : y.toInt = (v : Int)) (hw : w < W) (hv : v < W) : wt_H (wp_md_mayFollow n x y z) (fun q => q.2 = z ∧ ((q.1 = 1 ∧ wu_mf s w v = true) ∨ (q.1 = 0 ∧ wu_mf s w v = false))) := by
  obtain ⟨⟨-, -, -, h4, -⟩, -, -, tt, -, h7, -⟩ := R
  obtain ⟨-, a1, -, -, b1, -⟩ := tt w hw
  obtain ⟨-, a2, -, -, -, -⟩ := tt v hv
  have b1' : 0 ≤ (wt_ga s 23 w).toInt ∧ (wt_ga s 23 w).toInt ≤ 3 := b1
  have a1' : wt_ga s 23 w = wt_ga z 128 w := a1
  have a2' : wt_ga s 23 v = wt_ga z 128 v := a2
  have e := wt_tnI b1'.1
  unfold wp_md_mayFollow
  rw [wt_tnN hx, wt_tnN hy, ← a1', ← a2', ← h7 _ (show Int32.toNatClampNeg (wt_ga s 23 w) < 4 by omega)]
  refine wt_H_gd (fun _ => wt_H_gd (fun _ => wt_H_gd (fun _ => wt_H_if (fun c => ?_) (fun c => ?_))))
  · exact wt_H_some ⟨rfl, Or.inl ⟨rfl, decide_eq_true c⟩⟩
  · exact wt_H_some ⟨rfl, Or.inr ⟨rfl, decide_eq_false c⟩⟩
theorem wh_isOfM (n : Nat) {s z : wt_St} {t m W G v i : Nat} {o : Nat → Nat} {x y y2 : Int32} (R : wu_RW s z t m W G o) (hx : x.toInt = (v : Int)) (hv : v < W) (hy : y.toInt = (t : Int)) (hi' : y2.toInt = (i : Int)) (hi : i < m) : wt_H (wp_md_isOf n x y y2 z) (fun q => q.2 = z ∧ ((q.1 = 1 ∧ wu_of s (o i) v = true) ∨ (q.1 = 0 ∧ wu_of s (o i) v = false))) := by
  obtain ⟨-, -, h8, tt, -⟩ := R
  obtain ⟨c1, -, c3⟩ := h8 i hi
  obtain ⟨-, -, a1, -⟩ := tt v hv
  obtain ⟨-, -, a2, -⟩ := tt (o i) c1
  have a1' : wt_ga s 24 v = wt_ga z 130 v := a1
  have a2' : wt_ga s 24 (o i) = wt_ga z 130 (o i) := a2
  unfold wp_md_isOf
  rw [wt_tnN hx, wt_tnN hy, wt_tnN hi', wt_tnN c3, ← a1', ← a2']
  refine wt_H_gd (fun _ => wt_H_gd (fun _ => wt_H_gd (fun _ => wt_H_gd (fun _ => wt_H_if (fun c => ?_) (fun c => ?_)))))
  · exact wt_H_some ⟨rfl, Or.inl ⟨rfl, decide_eq_true c⟩⟩
  · exact wt_H_some ⟨rfl, Or.inr ⟨rfl, decide_eq_false c⟩⟩
end WTQ2
-- 96w.ways.lean.txt
section WTQ3
/-! how many wordings there are: from the last place on -/
theorem wu_FZ_eq {s s' : wt_St} (e : ∀ i, i < 40 → ∀ j, wt_ga s' i j = wt_ga s i j) : (∀ w, wu_F s' w = wu_F s w) ∧ (∀ w, wu_Z s' w = wu_Z s w) ∧ (∀ w v, wu_of s' w v = wu_of s w v) ∧ ∀ w v, wu_mf s' w v = wu_mf s w v := by
  refine ⟨fun w => ?_, fun w => ?_, fun w v => ?_, fun w v => ?_⟩
  · unfold wu_F
    rw [e 24 (by omega), e 25 (by omega)]
  · unfold wu_Z
    rw [e 24 (by omega), e 26 (by omega)]
  · unfold wu_of
    rw [e 24 (by omega), e 24 (by omega)]
  · unfold wu_mf
    rw [e 23 (by omega), e 23 (by omega), e 11 (by omega)]
def wu_wy (s : wt_St) (W m : Nat) (o : Nat → Nat) : Nat → Nat → Int
  | 0, _ => 1
  | d + 1, w => wt_sum (fun v => if (wu_of s (o (m - 1 - d)) v && wu_mf s w v) = true then wu_wy s W m o d v else 0) W
def wu_p5 : Nat → Int
  | 0 => 1
  | d + 1 => 5 * wu_p5 d
theorem wu_p5_bd : ∀ d, d < 12 → 1 ≤ wu_p5 d ∧ wu_p5 d ≤ 48828125 := by decide +kernel
theorem wu_seg {s : wt_St} {W G w : Nat} (gs : wt_gs 20 W G s) (hG : G ≤ 20) (hW : W ≤ 60) (hw : w < W) (P : Nat → Bool) (f : Nat → Int) : wt_sum (fun v => if (wu_of s w v && P v) = true then f v else 0) W = wt_sum (fun k => if P (wu_F s w + k) = true then f (wu_F s w + k) else 0) (wu_Z s w) := by
  obtain ⟨-, -, ⟨z1, z2, z3⟩, z4⟩ := wu_grp gs hG hW hw
  rw [wu_sum_seg (F := wu_F s w) (S := wu_Z s w) z3 (fun v hv => ?_) (fun v h1 h2 => ?_)]
  · refine wt_sum_congr _ (fun k hk => ?_)
    show (if (wu_of s w (wu_F s w + k) && P (wu_F s w + k)) = true then f (wu_F s w + k) else 0) = if P (wu_F s w + k) = true then f (wu_F s w + k) else 0
    rw [(z4 (wu_F s w + k) (by omega)).mpr (by omega), Bool.true_and]
  · show (if (wu_of s w v && P v) = true then f v else 0) = 0
    have : wu_of s w v = false := by
      cases h : wu_of s w v
      · rfl
      · have := (z4 v (by omega)).mp h
        omega
    rw [this, Bool.false_and, if_neg (by decide)]
  · show (if (wu_of s w v && P v) = true then f v else 0) = 0
    have : wu_of s w v = false := by
      cases h : wu_of s w v
      · rfl
      · have := (z4 v h2).mp h
        omega
    rw [this, Bool.false_and, if_neg (by decide)]
theorem wu_wy_bd {s z : wt_St} {t m W G : Nat} {o : Nat → Nat} (R : wu_RW s z t m W G o) : ∀ d, d < m → ∀ w, 0 ≤ wu_wy s W m o d w ∧ wu_wy s W m o d w ≤ wu_p5 d := by
  obtain ⟨⟨-, h2, h3, h4, h5⟩, -, h8, -, gs, -⟩ := R
  intro d
  induction d with
  | zero => exact fun _ w => ⟨by show (0 : Int) ≤ 1; omega, Int.le_refl _⟩
  | succ d ih =>
    intro hd w
    have hw := (h8 (m - 1 - d) (by omega)).1
    obtain ⟨-, -, ⟨z1, z2, z3⟩, -⟩ := wu_grp gs h5 h4 hw
    have e : wu_wy s W m o (d + 1) w = wt_sum (fun k => if wu_mf s w (wu_F s (o (m - 1 - d)) + k) = true then wu_wy s W m o d (wu_F s (o (m - 1 - d)) + k) else 0) (wu_Z s (o (m - 1 - d))) := wu_seg gs h5 h4 hw (fun v => wu_mf s w v) (fun v => wu_wy s W m o d v)
    have p := wu_p5_bd d (by omega)
    have b := wt_sum_bd (f := fun k => if wu_mf s w (wu_F s (o (m - 1 - d)) + k) = true then wu_wy s W m o d (wu_F s (o (m - 1 - d)) + k) else 0) (c := wu_p5 d) (wu_Z s (o (m - 1 - d))) (fun k _ => by
      have i := ih (by omega) (wu_F s (o (m - 1 - d)) + k)
      show 0 ≤ (if wu_mf s w (wu_F s (o (m - 1 - d)) + k) = true then wu_wy s W m o d (wu_F s (o (m - 1 - d)) + k) else 0) ∧ (if wu_mf s w (wu_F s (o (m - 1 - d)) + k) = true then wu_wy s W m o d (wu_F s (o (m - 1 - d)) + k) else 0) ≤ wu_p5 d
      split <;> omega)
    have mm : wu_p5 d * (wu_Z s (o (m - 1 - d)) : Int) ≤ wu_p5 d * 5 := Int.mul_le_mul_of_nonneg_left (by omega) (by omega)
    have pe : wu_p5 (d + 1) = 5 * wu_p5 d := rfl
    rw [e]
    omega
theorem wh_sumAt (n : Nat) (hn : 4294967297 < n) {s z : wt_St} {t m W G i k : Nat} {o : Nat → Nat} {x1 x2 x3 : Int32} (R : wu_RW s z t m W G o) (h1 : x1.toInt = (t : Int)) (h2 : x2.toInt = (i : Int)) (hi : i < m) (h3 : x3.toInt = ((wu_F s (o i) + k : Nat) : Int)) (hk : k < wu_Z s (o i)) : wt_H (wp_rw_sumAt n x1 x2 x3 s) (fun q => q = (wt_ga s 82 (5 * i + k), s)) := by
  have k5 : (5 : Int32).toInt = 5 := by decide
  have R' := R
  obtain ⟨⟨-, -, a3, a4, a5⟩, -, a8, -, gs, -⟩ := R'
  have hw := (a8 i hi).1
  obtain ⟨-, -, ⟨z1, z2, z3⟩, -⟩ := wu_grp gs a5 a4 hw
  unfold wp_rw_sumAt
  refine wt_H_bh (wh_wordAtR n hn R h1 h2 hi) (fun q1 e1 => ?_)
  rw [e1.1]
  refine wt_H_bh (wh_first n hn gs a5 a4 hw e1.2) (fun q2 e2 => ?_)
  rw [e2.1]
  have em := wt_mulR (x := x2) k5 (by omega) (by omega)
  have ea := wt_addE (x := x2 * (5 : Int32)) (y := x3) (by omega) (by omega)
  have es := wt_subE (x := x2 * (5 : Int32) + x3) (y := q2.1) (by omega) (by omega)
  refine wt_H_bh (wh_look n hn (k := 5 * i + k) (by omega) (by rw [show wt_ln 82 = 60 from by decide]; omega)) (fun q3 e3 => ?_)
  subst e3
  exact wt_H_some rfl
set_option maxHeartbeats 1000000 in
theorem wh_waysBehind (n : Nat) (hn : 4294967297 < n) {s z : wt_St} {t m W G i : Nat} {o : Nat → Nat} {x1 x2 x3 : Int32} {P : Nat → Bool} {y : Nat → Int} (R : wu_RW s z t m W G o) (h1 : x1.toInt = (t : Int)) (h2 : x2.toInt = (i : Int) - 1) (hi : i < m) (hy : ∀ k, k < wu_Z s (o i) → (wt_ga s 82 (5 * i + k)).toInt = y (wu_F s (o i) + k) ∧ 0 ≤ y (wu_F s (o i) + k) ∧ y (wu_F s (o i) + k) ≤ 48828125) (mf : ∀ (v : Nat) (u : Int32), v < W → u.toInt = (v : Int) → wt_H (wp_rw_mayFollow n x3 u s) (fun q => q.2 = s ∧ ((q.1 = 1 ∧ P v = true) ∨ (q.1 = 0 ∧ P v = false)))) : wt_H (wp_rw_waysBehind n x1 x2 x3 s) (fun q => q.2 = s ∧ q.1.toInt = wt_sum (fun k => if P (wu_F s (o i) + k) = true then y (wu_F s (o i) + k) else 0) (wu_Z s (o i))) := by
  have k0 : (0 : Int32).toInt = 0 := by decide
  have R' := R
  obtain ⟨⟨a1, -, a3, a4, a5⟩, ⟨a6, -, -⟩, a8, -, gs, -⟩ := R'
  have hw := (a8 i hi).1
  obtain ⟨-, -, ⟨z1, z2, z3⟩, -⟩ := wu_grp gs a5 a4 hw
  have e2 := wt_i1 (c := x2) (by omega)
  unfold wp_rw_waysBehind
  refine wt_H_bh (wh_lengthOf n hn h1 a1 a6) (fun q1 e1 => ?_)
  rw [if_pos (show (x2 + (1 : Int32)) < q1.1 from Int32.lt_iff_toInt_lt.mpr (by omega)), e1.1]
  refine wt_H_bh (wh_wordAtR n hn R h1 (i := i) (by omega) hi) (fun q3 e3 => ?_)
  rw [e3.1]
  refine wt_H_it (fun u : Int32 × Int32 × wt_St => u.2.2 = s ∧ (0 ≤ u.2.1.toInt ∧ u.2.1.toInt ≤ (wu_Z s (o i) : Int)) ∧ u.1.toInt = wt_sum (fun k => if P (wu_F s (o i) + k) = true then y (wu_F s (o i) + k) else 0) (Int32.toNatClampNeg u.2.1)) (fun K u I hK => ?_) n _ ⟨rfl, ⟨by show 0 ≤ ((0 : Int32)).toInt; omega, by show ((0 : Int32)).toInt ≤ _; omega⟩, by show ((0 : Int32)).toInt = wt_sum _ (Int32.toNatClampNeg (0 : Int32)); rw [wt_tn0, k0]; rfl⟩
  obtain ⟨i0, ⟨i1, i2⟩, i3⟩ := I
  have eu := wt_tnI i1
  unfold wp_rw_waysBehind_B38
  rw [i0]
  refine wt_H_bh (wh_members n hn gs a5 a4 hw e3.2) (fun q4 e4 => ?_)
  rw [e4.1]
  refine wt_H_if (fun c => ?_) (fun c => ?_)
  · have c' := wt_cle c
    refine wt_H_some ⟨rfl, ?_⟩
    show u.1.toInt = _
    rw [i3, show Int32.toNatClampNeg u.2.1 = wu_Z s (o i) by omega]
  · have c' := wt_ncle c
    have ei := wt_i1 (c := u.2.1) (by omega)
    have en : Int32.toNatClampNeg (u.2.1 + (1 : Int32)) = Int32.toNatClampNeg u.2.1 + 1 := by have := wt_tnI (x := u.2.1 + (1 : Int32)) (by omega); omega
    obtain ⟨y1, y2, y3⟩ := hy (Int32.toNatClampNeg u.2.1) (by omega)
    have sb := wt_sum_bd (f := fun k => if P (wu_F s (o i) + k) = true then y (wu_F s (o i) + k) else 0) (c := 48828125) (Int32.toNatClampNeg u.2.1) (fun k hk => by
      obtain ⟨-, p1, p2⟩ := hy k (by omega)
      show 0 ≤ (if P (wu_F s (o i) + k) = true then y (wu_F s (o i) + k) else 0) ∧ (if P (wu_F s (o i) + k) = true then y (wu_F s (o i) + k) else 0) ≤ 48828125
      split <;> omega)
    have sb' : 0 ≤ u.1.toInt ∧ u.1.toInt ≤ 48828125 * (Int32.toNatClampNeg u.2.1 : Int) := by rw [i3]; exact sb
    have N : ∀ w : Int32, w.toInt = (if P (wu_F s (o i) + Int32.toNatClampNeg u.2.1) = true then y (wu_F s (o i) + Int32.toNatClampNeg u.2.1) else 0) → wt_H (wp_rw_waysBehind_B91 n x1 x3 (x2 + (1 : Int32)) q3.1 u.2.1 K u.1 w s) (fun q => q.2 = s ∧ q.1.toInt = wt_sum (fun k => if P (wu_F s (o i) + k) = true then y (wu_F s (o i) + k) else 0) (wu_Z s (o i))) := fun w hw' => by
      have wb : 0 ≤ w.toInt ∧ w.toInt ≤ 48828125 := by
        rw [hw']
        split <;> omega
      have ea := wt_addE (x := u.1) (y := w) (by omega) (by omega)
      unfold wp_rw_waysBehind_B91
      refine hK _ ⟨rfl, ⟨by show 0 ≤ (u.2.1 + (1 : Int32)).toInt; omega, by show (u.2.1 + (1 : Int32)).toInt ≤ _; omega⟩, ?_⟩
      show (u.1 + w).toInt = wt_sum _ (Int32.toNatClampNeg (u.2.1 + (1 : Int32)))
      rw [en, ea, i3, hw']
      rfl
    refine wt_H_bh (wh_first n hn gs a5 a4 hw e3.2) (fun q6 e6 => ?_)
    rw [e6.1]
    have ea := wt_addE (x := q6.1) (y := u.2.1) (by omega) (by omega)
    refine wt_H_bh (mf (wu_F s (o i) + Int32.toNatClampNeg u.2.1) (q6.1 + u.2.1) (by omega) (by omega)) (fun q7 e7 => ?_)
    obtain ⟨e7, e8⟩ := e7
    rw [e7]
    rcases e8 with ⟨p1, p2⟩ | ⟨p1, p2⟩
    · rw [if_neg (show ¬ q7.1 = 0 by rw [p1]; decide)]
      refine wt_H_bh (wh_sumAt n hn R h1 (i := i) (k := Int32.toNatClampNeg u.2.1) (by omega) hi (by omega) (by omega)) (fun q9 e9 => ?_)
      subst e9
      refine N _ ?_
      rw [p2, if_pos rfl]
      exact y1
    · rw [if_pos (show q7.1 = 0 from p1)]
      refine N _ ?_
      rw [p2, if_neg (by decide)]
      exact k0
theorem wh_mayN (n : Nat) {u : Int32} {s : wt_St} : wt_H (wp_rw_mayFollow n (-1 : Int32) u s) (fun q => q.2 = s ∧ ((q.1 = 1 ∧ true = true) ∨ (q.1 = 0 ∧ true = false))) := by
  unfold wp_rw_mayFollow
  rw [if_pos rfl]
  exact wt_H_some ⟨rfl, Or.inl ⟨rfl, rfl⟩⟩
set_option maxHeartbeats 2000000 in
theorem wh_howMany (n : Nat) (hn : 4294967297 < n) {s z : wt_St} {t m W G : Nat} {o : Nat → Nat} {x1 : Int32} (R : wu_RW s z t m W G o) (h1 : x1.toInt = (t : Int)) : wt_H (wp_rw_howMany n x1 s) (fun q => q.1.toInt = wt_sum (fun k => wu_wy s W m o (m - 1) (wu_F s (o 0) + k)) (wu_Z s (o 0)) ∧ 0 ≤ q.1.toInt) := by
  have k0 : (0 : Int32).toInt = 0 := by decide
  have k5 : (5 : Int32).toInt = 5 := by decide
  have R' := R
  obtain ⟨⟨a1, a2, a3, a4, a5⟩, ⟨a6, -, -⟩, a8, -, gs, -⟩ := R'
  have RR : ∀ q, wt_fr (fun _ _ => False) (fun i => i = 82) s q → wu_RW q z t m W G o := fun q f => wu_RW_fr R f (wt_fr.rf (F := fun _ _ => False) (A := fun _ => False)) (fun i hi => by (try dsimp only); omega) (fun h => h) (fun _ _ h => h)
  have EE : ∀ q, wt_fr (fun _ _ => False) (fun i => i = 82) s q → (∀ w, wu_F q w = wu_F s w) ∧ (∀ w, wu_Z q w = wu_Z s w) ∧ (∀ w v, wu_of q w v = wu_of s w v) ∧ ∀ w v, wu_mf q w v = wu_mf s w v := fun q f => wu_FZ_eq (fun i hi => f.2 i (by (try dsimp only); omega))
  unfold wp_rw_howMany
  refine wt_H_bh (wh_lengthOf n hn h1 a1 a6) (fun q1 e1 => ?_)
  rw [e1.1]
  have es := wt_subE (x := q1.1) (y := (1 : Int32)) (by rw [show (1 : Int32).toInt = 1 from by decide]; omega) (by rw [show (1 : Int32).toInt = 1 from by decide]; omega)
  rw [show (1 : Int32).toInt = 1 from by decide] at es
  refine wt_H_it (fun u : Int32 × wt_St => (-1 ≤ u.1.toInt ∧ u.1.toInt < (m : Int)) ∧ wt_fr (fun _ _ => False) (fun i => i = 82) s u.2 ∧ ∀ i : Nat, u.1.toInt < (i : Int) → i < m → ∀ k, k < wu_Z s (o i) → (wt_ga u.2 82 (5 * i + k)).toInt = wu_wy s W m o (m - 1 - i) (wu_F s (o i) + k)) (fun K u I hK => ?_) n _ ⟨⟨by show -1 ≤ (q1.1 - (1 : Int32)).toInt; omega, by show (q1.1 - (1 : Int32)).toInt < _; omega⟩, wt_fr.rf, fun i h1 h2 => absurd (show (q1.1 - (1 : Int32)).toInt < (i : Int) from h1) (by omega)⟩
  obtain ⟨⟨i0, i1⟩, fu, i2⟩ := I
  obtain ⟨eF, eZ, -, eM⟩ := EE u.2 fu
  unfold wp_rw_howMany_B11
  refine wt_H_if (fun c => ?_) (fun c => ?_)
  · have c' := wt_clt c
    have hw := (a8 0 (by omega)).1
    obtain ⟨-, -, ⟨z1, z2, z3⟩, -⟩ := wu_grp gs a5 a4 hw
    refine wt_H_bh (wh_waysBehind n hn (RR _ fu) h1 (i := 0) (P := fun _ => true) (y := fun v => wu_wy s W m o (m - 1) v) (by rw [wt_lm1]; rfl) (by omega) (fun k hk => ?_) (fun v w _ _ => wh_mayN n)) (fun q3 e3 => ?_)
    · rw [eZ] at hk
      have b := wu_wy_bd R (m - 1) (by omega) (wu_F s (o 0) + k)
      have p := wu_p5_bd (m - 1) (by omega)
      rw [eF]
      exact ⟨i2 0 (by omega) (by omega) k hk, b.1, by omega⟩
    · refine wt_H_some ?_
      obtain ⟨-, e3⟩ := e3
      rw [eF, eZ] at e3
      have e4 : wt_sum (fun k => if true = true then wu_wy s W m o (m - 1) (wu_F s (o 0) + k) else 0) (wu_Z s (o 0)) = wt_sum (fun k => wu_wy s W m o (m - 1) (wu_F s (o 0) + k)) (wu_Z s (o 0)) := wt_sum_congr _ (fun k _ => if_pos rfl)
      have nn := wt_sum_bd (f := fun k => wu_wy s W m o (m - 1) (wu_F s (o 0) + k)) (c := wu_p5 (m - 1)) (wu_Z s (o 0)) (fun k _ => wu_wy_bd R (m - 1) (by omega) _)
      show q3.1.toInt = _ ∧ 0 ≤ q3.1.toInt
      rw [e3, e4]
      exact ⟨rfl, nn.1⟩
  · have c' := wt_ncl c
    obtain ⟨i, hi⟩ : ∃ i : Nat, i = Int32.toNatClampNeg u.1 := ⟨_, rfl⟩
    have ei := wt_tnI (x := u.1) (by omega)
    rw [← hi] at ei
    have hw := (a8 i (by omega)).1
    obtain ⟨-, -, ⟨z1, z2, z3⟩, -⟩ := wu_grp gs a5 a4 hw
    obtain ⟨um, eum⟩ : ∃ y : Int32, y = u.1 + (-1 : Int32) := ⟨_, rfl⟩
    have ed : um.toInt = u.1.toInt - 1 := by rw [eum]; exact wt_d1 (by omega)
    refine wt_H_bh (wh_wordAtR n hn (RR _ fu) h1 (i := i) ei.symm (by omega)) (fun q4 e4 => ?_)
    rw [e4.1]
    refine wt_H_it (fun p : Int32 × wt_St => (0 ≤ p.1.toInt ∧ p.1.toInt ≤ (wu_Z s (o i) : Int)) ∧ wt_fr (fun _ _ => False) (fun i => i = 82) s p.2 ∧ (∀ i' : Nat, i < i' → i' < m → ∀ k, k < wu_Z s (o i') → (wt_ga p.2 82 (5 * i' + k)).toInt = wu_wy s W m o (m - 1 - i') (wu_F s (o i') + k)) ∧ ∀ k : Nat, (k : Int) < p.1.toInt → (wt_ga p.2 82 (5 * i + k)).toInt = wu_wy s W m o (m - 1 - i) (wu_F s (o i) + k)) (fun K2 p J hK2 => ?_) n _ ⟨⟨by show 0 ≤ ((0 : Int32)).toInt; omega, by show ((0 : Int32)).toInt ≤ _; omega⟩, fu, fun i' h1 h2 => i2 i' (by omega) h2, fun k hk => absurd (show (k : Int) < ((0 : Int32)).toInt from hk) (by omega)⟩
    obtain ⟨⟨j0, j1⟩, fp, j2, j3⟩ := J
    obtain ⟨pF, pZ, -, pM⟩ := EE p.2 fp
    have ep := wt_tnI j0
    have gsp : wt_gs 20 W G p.2 := (RR _ fp).2.2.2.2.1
    unfold wp_rw_howMany_B28
    refine wt_H_bh (wh_members n hn gsp a5 a4 hw e4.2) (fun q5 e5 => ?_)
    rw [e5.1]
    rw [pZ] at e5
    refine wt_H_if (fun d => ?_) (fun d => ?_)
    · have d' := wt_cle d
      rw [← eum]
      refine hK _ ⟨⟨by show -1 ≤ um.toInt; omega, by show um.toInt < _; omega⟩, fp, fun i' h1 h2 k hk => ?_⟩
      have h1' : um.toInt < (i' : Int) := h1
      by_cases x : i' = i
      · rw [x] at hk ⊢
        exact j3 k (by omega)
      · exact j2 i' (by omega) h2 k hk
    · have d' := wt_ncle d
      have epi := wt_i1 (c := p.1) (by omega)
      refine wt_H_bh (wh_first n hn gsp a5 a4 hw e4.2) (fun q7 e7 => ?_)
      rw [e7.1]
      rw [pF] at e7
      have ea := wt_addE (x := q7.1) (y := p.1) (by omega) (by omega)
      have WB : wt_H (wp_rw_waysBehind n x1 u.1 (q7.1 + p.1) p.2) (fun q => q.2 = p.2 ∧ q.1.toInt = wu_wy s W m o (m - 1 - i) (wu_F s (o i) + Int32.toNatClampNeg p.1)) := by
        by_cases x : i + 1 < m
        · have hw1 := (a8 (i + 1) x).1
          refine (wh_waysBehind n hn (RR _ fp) h1 (i := i + 1) (P := fun v => wu_mf s (wu_F s (o i) + Int32.toNatClampNeg p.1) v) (y := fun v => wu_wy s W m o (m - 1 - (i + 1)) v) (by omega) x (fun k hk => ?_) (fun v w hv hwv => ?_)).imp (fun q hq => ⟨hq.1, ?_⟩)
          · rw [pZ] at hk
            have b := wu_wy_bd R (m - 1 - (i + 1)) (by omega) (wu_F s (o (i + 1)) + k)
            have p5 := wu_p5_bd (m - 1 - (i + 1)) (by omega)
            rw [pF]
            exact ⟨j2 (i + 1) (by omega) x k hk, b.1, by omega⟩
          · have := wh_mayC n hn (RR _ fp) (x := q7.1 + p.1) (y := w) (w := wu_F s (o i) + Int32.toNatClampNeg p.1) (v := v) (by omega) hwv (by omega) hv
            rw [pM] at this
            exact this
          · rw [hq.2, pF, pZ]
            have e : m - 1 - i = (m - 1 - (i + 1)) + 1 := by omega
            rw [e]
            have sg := wu_seg gs a5 a4 hw1 (fun v => wu_mf s (wu_F s (o i) + Int32.toNatClampNeg p.1) v) (fun v => wu_wy s W m o (m - 1 - (i + 1)) v)
            show _ = wt_sum (fun v => if (wu_of s (o (m - 1 - (m - 1 - (i + 1)))) v && wu_mf s (wu_F s (o i) + Int32.toNatClampNeg p.1) v) = true then wu_wy s W m o (m - 1 - (i + 1)) v else 0) W
            rw [show m - 1 - (m - 1 - (i + 1)) = i + 1 by omega]
            exact sg.symm
        · have eu1 := wt_i1 (c := u.1) (by omega)
          unfold wp_rw_waysBehind
          refine wt_H_bh (wh_lengthOf n hn h1 a1 (by rw [fp.2 36 (by decide)]; exact a6)) (fun q1 e1 => ?_)
          rw [if_neg (show ¬ (u.1 + (1 : Int32)) < q1.1 from fun h => by have := wt_clt h; omega), e1.1]
          refine wt_H_some ⟨rfl, ?_⟩
          rw [show m - 1 - i = 0 by omega]
          show ((1 : Int32)).toInt = 1
          decide
      refine wt_H_bh WB (fun q8 e8 => ?_)
      rw [e8.1]
      have em := wt_mulR (x := u.1) k5 (by omega) (by omega)
      have ek := wt_addE (x := u.1 * (5 : Int32)) (y := p.1) (by omega) (by omega)
      refine wt_H_bh (wh_put n (k := 5 * i + Int32.toNatClampNeg p.1) (by omega) (by rw [show wt_ln 82 = 60 from by decide]; omega)) (fun q9 ε => ?_)
      refine hK2 _ ⟨⟨by show 0 ≤ (p.1 + (1 : Int32)).toInt; omega, by show (p.1 + (1 : Int32)).toInt ≤ _; omega⟩, fp.sa ε rfl, fun i' h1 h2 k hk => ?_, fun k hk => ?_⟩
      · obtain ⟨-, -, ⟨-, w2, -⟩, -⟩ := wu_grp gs a5 a4 (a8 i' h2).1
        rw [wt_w_sa ε _ (by omega)]
        exact j2 i' h1 h2 k hk
      · have hk' : (k : Int) < (p.1 + (1 : Int32)).toInt := hk
        show (wt_ga q9 82 (5 * i + k)).toInt = _
        by_cases x : k = Int32.toNatClampNeg p.1
        · rw [x, wt_v_sa ε]
          exact e8.2
        · rw [wt_w_sa ε _ (by omega)]
          exact j3 k (by omega)
end WTQ3
-- 96x.rests.lean.txt
section WTQ4
/-! the reference's rests: the least price of what can follow, and in how many ways -/
def wu_cp (x : Int) : Int := if x ≤ 1000000 then x else 1000000
theorem wu_cp_add {a b : Int} (ha : 0 ≤ a) (hb : 0 ≤ b) : wu_cp (wu_cp a + wu_cp b) = wu_cp (a + b) := by
  unfold wu_cp
  (repeat' split) <;> omega
theorem wu_cp_bd {a : Int} (ha : 0 ≤ a) : 0 ≤ wu_cp a ∧ wu_cp a ≤ 1000000 := by
  unfold wu_cp
  split <;> omega
/-- the least of those that are allowed, none as NONE -/
def wu_bs (f : Nat → Int) (P : Nat → Bool) : Nat → Int
  | 0 => -1
  | n + 1 => if P n = true ∧ f n ≠ -1 ∧ (wu_bs f P n = -1 ∨ f n < wu_bs f P n) then f n else wu_bs f P n
theorem wu_bs_sp {f : Nat → Int} {P : Nat → Bool} : ∀ n : Nat, (wu_bs f P n = -1 ∧ ∀ v, v < n → P v = true → f v = -1) ∨ ∃ v, v < n ∧ P v = true ∧ f v ≠ -1 ∧ wu_bs f P n = f v := by
  intro n
  induction n with
  | zero => exact Or.inl ⟨rfl, fun v hv => absurd hv (by omega)⟩
  | succ n ih =>
    by_cases c : P n = true ∧ f n ≠ -1 ∧ (wu_bs f P n = -1 ∨ f n < wu_bs f P n)
    · have e : wu_bs f P (n + 1) = f n := if_pos c
      exact Or.inr ⟨n, by omega, c.1, c.2.1, e⟩
    · have e : wu_bs f P (n + 1) = wu_bs f P n := if_neg c
      rw [e]
      rcases ih with ⟨a, b⟩ | ⟨v, v1, v2, v3, v4⟩
      · refine Or.inl ⟨a, fun v hv hp => ?_⟩
        by_cases x : v = n
        · rw [x] at hp ⊢
          by_cases y : f n = -1
          · exact y
          · exact absurd ⟨hp, y, Or.inl a⟩ c
        · exact b v (by omega) hp
      · exact Or.inr ⟨v, by omega, v2, v3, v4⟩
theorem wt_sum_ge {f : Nat → Int} {m v : Nat} (h : ∀ k, k < m → 0 ≤ f k) (hv : v < m) : f v ≤ wt_sum f m := by
  have a := wt_sum_pre (f := f) (a := v + 1) m (by omega) h
  have b := wt_sum_pre (f := f) (a := 0) v (by omega) (fun k hk => h k (by omega))
  have e : wt_sum f (v + 1) = wt_sum f v + f v := rfl
  have e0 : wt_sum f 0 = 0 := rfl
  omega
/-- the price of a word, and of the least rest -/
def wu_pw (z : wt_St) (w : Nat) : Int := wt_sum (fun k => (wt_ga z 115 (Int32.toNatClampNeg (wt_ga z (193 + w) k))).toInt) (Int32.toNatClampNeg (wt_ga z 126 w))
def wu_pr (s z : wt_St) (W m : Nat) (o : Nat → Nat) : Nat → Nat → Int
  | 0, w => wu_pw z w
  | d + 1, w => if wu_bs (fun v => wu_pr s z W m o d v) (fun v => wu_of s (o (m - 1 - d)) v && wu_mf s w v) W = -1 then -1 else wu_bs (fun v => wu_pr s z W m o d v) (fun v => wu_of s (o (m - 1 - d)) v && wu_mf s w v) W + wu_pw z w
theorem wu_pw_bd {s z : wt_St} {t m W G w : Nat} {o : Nat → Nat} (R : wu_RW s z t m W G o) (r : wt_RI z) (hw : w < W) : 0 ≤ wu_pw z w ∧ wu_pw z w ≤ 891 := by
  obtain ⟨-, -, -, tt, -⟩ := R
  obtain ⟨a, -, -, b, -⟩ := tt w hw
  have e := wt_tnle (b := 9) (x := wt_ga z 126 w) (by rw [← a]; omega)
  have h := wt_sum_bd (f := fun k => (wt_ga z 115 (Int32.toNatClampNeg (wt_ga z (193 + w) k))).toInt) (c := 99) (Int32.toNatClampNeg (wt_ga z 126 w)) (fun k _ => by
    have g : 0 ≤ (wt_ga z 115 (Int32.toNatClampNeg (wt_ga z (193 + w) k))).toInt ∧ (wt_ga z 115 (Int32.toNatClampNeg (wt_ga z (193 + w) k))).toInt ≤ 99 := wt_Ra18 r 115 (show 114 ≤ 115 by omega) (show 115 < 116 by omega) _
    exact g)
  unfold wu_pw
  omega
theorem wu_pr_sp {s z : wt_St} {t m W G : Nat} {o : Nat → Nat} (R : wu_RW s z t m W G o) (r : wt_RI z) : ∀ d, d < m → ∀ w, w < W → (wu_pr s z W m o d w = -1 ∨ (0 ≤ wu_pr s z W m o d w ∧ wu_pr s z W m o d w ≤ 891 * ((d : Int) + 1))) ∧ (wu_pr s z W m o d w = -1 ↔ wu_wy s W m o d w = 0) := by
  intro d
  induction d with
  | zero =>
    intro _ w hw
    have b := wu_pw_bd R r hw
    have e : wu_pr s z W m o 0 w = wu_pw z w := rfl
    have e2 : wu_wy s W m o 0 w = 1 := rfl
    rw [e, e2]
    exact ⟨Or.inr ⟨b.1, by omega⟩, ⟨fun h => by omega, fun h => by omega⟩⟩
  | succ d ih =>
    intro hd w hw
    have b := wu_pw_bd R r hw
    have e2 : wu_wy s W m o (d + 1) w = wt_sum (fun v => if (wu_of s (o (m - 1 - d)) v && wu_mf s w v) = true then wu_wy s W m o d v else 0) W := rfl
    have nn : ∀ v, v < W → 0 ≤ (if (wu_of s (o (m - 1 - d)) v && wu_mf s w v) = true then wu_wy s W m o d v else 0) := fun v _ => by
      have := (wu_wy_bd R d (by omega) v).1
      split <;> omega
    rcases wu_bs_sp (f := fun v => wu_pr s z W m o d v) (P := fun v => wu_of s (o (m - 1 - d)) v && wu_mf s w v) W with ⟨c1, c2⟩ | ⟨v, v1, v2, v3, v4⟩
    · have e : wu_pr s z W m o (d + 1) w = -1 := if_pos c1
      refine ⟨Or.inl e, ⟨fun _ => ?_, fun _ => e⟩⟩
      rw [e2]
      refine wt_sum_z W (fun v hv => ?_)
      show (if (wu_of s (o (m - 1 - d)) v && wu_mf s w v) = true then wu_wy s W m o d v else 0) = 0
      by_cases p : (wu_of s (o (m - 1 - d)) v && wu_mf s w v) = true
      · rw [if_pos p]
        exact ((ih (by omega) v hv).2).mp (c2 v hv p)
      · rw [if_neg p]
    · have v3' : wu_pr s z W m o d v ≠ -1 := v3
      have v4' : wu_bs (fun v => wu_pr s z W m o d v) (fun v => wu_of s (o (m - 1 - d)) v && wu_mf s w v) W = wu_pr s z W m o d v := v4
      obtain ⟨i1, i2⟩ := ih (by omega) v v1
      have e : wu_pr s z W m o (d + 1) w = wu_pr s z W m o d v + wu_pw z w := by
        show (if wu_bs (fun v => wu_pr s z W m o d v) (fun v => wu_of s (o (m - 1 - d)) v && wu_mf s w v) W = -1 then -1 else wu_bs (fun v => wu_pr s z W m o d v) (fun v => wu_of s (o (m - 1 - d)) v && wu_mf s w v) W + wu_pw z w) = _
        rw [v4', if_neg v3']
      have i1' : 0 ≤ wu_pr s z W m o d v ∧ wu_pr s z W m o d v ≤ 891 * ((d : Int) + 1) := by
        rcases i1 with i1 | i1
        · exact absurd i1 v3'
        · exact i1
      rw [e]
      refine ⟨Or.inr ⟨by omega, by rw [show ((d + 1 : Nat) : Int) = (d : Int) + 1 from rfl]; omega⟩, ⟨fun h => by omega, fun h => ?_⟩⟩
      exfalso
      have g := wt_sum_ge nn v1
      have v2' : (wu_of s (o (m - 1 - d)) v && wu_mf s w v) = true := v2
      have g' : (if (wu_of s (o (m - 1 - d)) v && wu_mf s w v) = true then wu_wy s W m o d v else 0) ≤ wu_wy s W m o (d + 1) w := by
        rw [e2]
        exact g
      rw [if_pos v2'] at g'
      have w0 := (wu_wy_bd R d (by omega) v).1
      exact v3' (i2.mpr (by omega))
theorem wh_priceM (n : Nat) {s z : wt_St} {t m W G w : Nat} {o : Nat → Nat} {x : Int32} (R : wu_RW s z t m W G o) (r : wt_RI z) (hx : x.toInt = (w : Int)) (hw : w < W) : wt_H (wp_md_priceOf n x z) (fun q => q.2 = z ∧ q.1.toInt = wu_pw z w) := by
  have k0 : (0 : Int32).toInt = 0 := by decide
  have R' := R
  obtain ⟨-, -, -, tt, -⟩ := R'
  obtain ⟨a, -, -, b, -, c⟩ := tt w hw
  have ew := wt_tnN hx
  have a' : wt_ga s 22 w = wt_ga z 126 w := a
  have b' : 1 ≤ (wt_ga s 22 w).toInt ∧ (wt_ga s 22 w).toInt ≤ 9 := b
  rw [a'] at b'
  have el := wt_tnI (x := wt_ga z 126 w) (by omega)
  unfold wp_md_priceOf
  refine wt_H_it (fun u : Int32 × Int32 × wt_St => u.2.2 = z ∧ (0 ≤ u.2.1.toInt ∧ u.2.1.toInt ≤ (wt_ga z 126 w).toInt) ∧ u.1.toInt = wt_sum (fun k => (wt_ga z 115 (Int32.toNatClampNeg (wt_ga z (193 + w) k))).toInt) (Int32.toNatClampNeg u.2.1)) (fun K u I hK => ?_) n _ ⟨rfl, ⟨by show 0 ≤ ((0 : Int32)).toInt; omega, by show ((0 : Int32)).toInt ≤ _; omega⟩, by show ((0 : Int32)).toInt = wt_sum _ (Int32.toNatClampNeg (0 : Int32)); rw [wt_tn0, k0]; rfl⟩
  obtain ⟨i0, ⟨i1, i2⟩, i3⟩ := I
  have eu := wt_tnI i1
  unfold wp_md_priceOf_B4
  rw [i0, ew]
  refine wt_H_gd (fun _ => wt_H_if (fun d => ?_) (fun d => ?_))
  · have d' := wt_cle d
    refine wt_H_some ⟨rfl, ?_⟩
    show u.1.toInt = wu_pw z w
    unfold wu_pw
    rw [i3, show Int32.toNatClampNeg u.2.1 = Int32.toNatClampNeg (wt_ga z 126 w) by omega]
  · have d' := wt_ncle d
    have ei := wt_i1 (c := u.2.1) (by omega)
    have en : Int32.toNatClampNeg (u.2.1 + (1 : Int32)) = Int32.toNatClampNeg u.2.1 + 1 := by have := wt_tnI (x := u.2.1 + (1 : Int32)) (by omega); omega
    have g : ∀ j, 0 ≤ (wt_ga z 115 j).toInt ∧ (wt_ga z 115 j).toInt ≤ 99 := fun j => wt_Ra18 r 115 (show 114 ≤ 115 by omega) (show 115 < 116 by omega) j
    have sb := wt_sum_bd (f := fun k => (wt_ga z 115 (Int32.toNatClampNeg (wt_ga z (193 + w) k))).toInt) (c := 99) (Int32.toNatClampNeg u.2.1) (fun k _ => g _)
    have gk := g (Int32.toNatClampNeg (wt_ga z (193 + w) (Int32.toNatClampNeg u.2.1)))
    have ea := wt_addE (x := u.1) (y := wt_ga z 115 (Int32.toNatClampNeg (wt_ga z (193 + w) (Int32.toNatClampNeg u.2.1)))) (by omega) (by omega)
    refine wt_H_gd (fun _ => wt_H_gd (fun _ => wt_H_gd (fun _ => ?_)))
    refine hK _ ⟨rfl, ⟨by show 0 ≤ (u.2.1 + (1 : Int32)).toInt; omega, by show (u.2.1 + (1 : Int32)).toInt ≤ _; omega⟩, ?_⟩
    show (u.1 + wt_ga z 115 (Int32.toNatClampNeg (wt_ga z (193 + w) (Int32.toNatClampNeg u.2.1)))).toInt = wt_sum _ (Int32.toNatClampNeg (u.2.1 + (1 : Int32)))
    rw [en, ea, i3]
    rfl
theorem wh_priceC (n : Nat) (hn : 4294967297 < n) {s z : wt_St} {t m W G w : Nat} {o : Nat → Nat} {x : Int32} (R : wu_RW s z t m W G o) (r : wt_RI z) (hx : x.toInt = (w : Int)) (hw : w < W) : wt_H (wp_rw_priceOf n x s) (fun q => q.2 = s ∧ q.1.toInt = wu_pw z w) := fun q hq => by
  obtain ⟨y, hy, -⟩ := wq_md_priceOf n hn x z r (by omega) (by have := R.1.2.2.2.1; omega)
  have a := wr_priceW n hn R.2.2.2.1 R.1.2.2.2.1 R.2.2.2.2.2.2 hx hw q y hq hy
  exact ⟨a.2.1, by rw [a.1]; exact (wh_priceM n R r hx hw y hy).2⟩
/-- what is laid for a place -/
def wu_LR (s z q : wt_St) (W m : Nat) (o : Nat → Nat) (i w : Nat) : Prop := (wt_ga q (292 + i) w).toInt = (if wu_of s (o i) w = true then wu_pr s z W m o (m - 1 - i) w else -1) ∧ (wt_ga q (305 + i) w).toInt = if wu_of s (o i) w = true then wu_cp (wu_wy s W m o (m - 1 - i) w) else 0
set_option maxHeartbeats 4000000 in
theorem wh_laysRests (n : Nat) (hn : 4294967297 < n) {s z : wt_St} {t m W G : Nat} {o : Nat → Nat} {x1 : Int32} (R : wu_RW s z t m W G o) (r : wt_RI z) (h1 : x1.toInt = (t : Int)) : wt_H (wp_md_laysRests n x1 z) (fun q => wt_fr (fun _ _ => False) (fun i => 292 ≤ i ∧ i < 317) z q ∧ ∀ i, i < m → ∀ w, w < W → wu_LR s z q W m o i w) := by
  have k0 : (0 : Int32).toInt = 0 := by decide
  have k1 : (1 : Int32).toInt = 1 := by decide
  have kM : (1000000 : Int32).toInt = 1000000 := by decide
  have R' := R
  obtain ⟨⟨a1, a2, a3, a4, a5⟩, ⟨-, a6, a7⟩, a8, -, gs, -⟩ := R'
  have et := wt_tnN h1
  have RR : ∀ q, wt_fr (fun _ _ => False) (fun i => 292 ≤ i ∧ i < 317) z q → wu_RW s q t m W G o := fun q f => wu_RW_fr R (wt_fr.rf (F := fun _ _ => False) (A := fun _ => False)) f (fun _ _ h => h) (fun h => h) (fun i hi => by (try dsimp only); omega)
  have NI : ∀ {σ σ' : wt_St} {i j : Nat} {v : Int32}, wt_RI σ → σ' = wt_sa σ i j v → 292 ≤ i → i < 317 → wt_RI σ' := fun h e i1 i2 => wt_RI_no h e 292 317 (by decide +kernel) i1 i2
  have PW : ∀ q w, wt_fr (fun _ _ => False) (fun i => 292 ≤ i ∧ i < 317) z q → w < W → wu_pw q w = wu_pw z w := fun q w f hw => by
    unfold wu_pw
    rw [f.2 126 (by (try dsimp only); omega)]
    exact wt_sum_congr _ (fun k _ => by
      show (wt_ga q 115 (Int32.toNatClampNeg (wt_ga q (193 + w) k))).toInt = (wt_ga z 115 (Int32.toNatClampNeg (wt_ga z (193 + w) k))).toInt
      rw [f.2 (193 + w) (by (try dsimp only); omega), f.2 115 (by (try dsimp only); omega)])
  unfold wp_md_laysRests
  rw [et]
  refine wt_H_gd (fun _ => ?_)
  have es := wt_subE (x := wt_ga z 253 t) (y := (1 : Int32)) (by omega) (by omega)
  refine wt_H_it (fun u : Int32 × wt_St => (-1 ≤ u.1.toInt ∧ u.1.toInt < (m : Int)) ∧ wt_RI u.2 ∧ wt_fr (fun _ _ => False) (fun i => 292 ≤ i ∧ i < 317) z u.2 ∧ ∀ i : Nat, u.1.toInt < (i : Int) → i < m → ∀ w, w < W → wu_LR s z u.2 W m o i w) (fun K u I hK => ?_) n _ ⟨⟨by show -1 ≤ (wt_ga z 253 t - (1 : Int32)).toInt; omega, by show (wt_ga z 253 t - (1 : Int32)).toInt < _; omega⟩, r, wt_fr.rf, fun i h1 h2 => absurd (show (wt_ga z 253 t - (1 : Int32)).toInt < (i : Int) from h1) (by omega)⟩
  obtain ⟨⟨i0, i1⟩, ru, fu, i2⟩ := I
  unfold wp_md_laysRests_B9
  refine wt_H_if (fun c => ?_) (fun c => ?_)
  · have c' := wt_clt c
    exact wt_H_some ⟨fu, fun i hi w hw => i2 i (by omega) hi w hw⟩
  have c' := wt_ncl c
  obtain ⟨i, hi⟩ : ∃ i : Nat, i = Int32.toNatClampNeg u.1 := ⟨_, rfl⟩
  have ei := wt_tnI (x := u.1) (by omega)
  rw [← hi] at ei
  have hw := (a8 i (by omega)).1
  obtain ⟨um, eum⟩ : ∃ y : Int32, y = u.1 + (-1 : Int32) := ⟨_, rfl⟩
  have ed : um.toInt = u.1.toInt - 1 := by rw [eum]; exact wt_d1 (by omega)
  have eu1 := wt_i1 (c := u.1) (by omega)
  refine wt_H_it (fun p : Int32 × wt_St => (0 ≤ p.1.toInt ∧ p.1.toInt ≤ (W : Int)) ∧ wt_RI p.2 ∧ wt_fr (fun _ _ => False) (fun i => 292 ≤ i ∧ i < 317) z p.2 ∧ (∀ i' : Nat, i < i' → i' < m → ∀ w, w < W → wu_LR s z p.2 W m o i' w) ∧ ∀ w : Nat, (w : Int) < p.1.toInt → wu_LR s z p.2 W m o i w) (fun K2 p J hK2 => ?_) n _ ⟨⟨by show 0 ≤ ((0 : Int32)).toInt; omega, by show ((0 : Int32)).toInt ≤ _; omega⟩, ru, fu, fun i' h1 h2 => i2 i' (by omega) h2, fun w hw => absurd (show (w : Int) < ((0 : Int32)).toInt from hw) (by omega)⟩
  obtain ⟨⟨j0, j1⟩, rp, fp, j2, j3⟩ := J
  have ep := wt_tnI j0
  unfold wp_md_laysRests_B15
  rw [fp.1 108 28 (fun h => h)]
  refine wt_H_if (fun d => ?_) (fun d => ?_)
  · have d' := wt_cle d
    rw [← eum]
    refine hK _ ⟨⟨by show -1 ≤ um.toInt; omega, by show um.toInt < _; omega⟩, rp, fp, fun i' h1 h2 w hw' => ?_⟩
    have h1' : um.toInt < (i' : Int) := h1
    by_cases x : i' = i
    · rw [x]
      exact j3 w (by omega)
    · exact j2 i' (by omega) h2 w hw'
  have d' := wt_ncle d
  have epi := wt_i1 (c := p.1) (by omega)
  obtain ⟨w, hww⟩ : ∃ w : Nat, w = Int32.toNatClampNeg p.1 := ⟨_, rfl⟩
  rw [← hww] at ep
  rw [← hi, ← hww, et]
  refine wt_H_gd (fun _ => wt_H_gd (fun _ => wt_H_gd (fun _ => wt_H_gd (fun _ => ?_))))
  obtain ⟨s1, ε1⟩ : ∃ q : wt_St, q = wt_sa p.2 (292 + i) w (-1 : Int32) := ⟨_, rfl⟩
  rw [← ε1]
  obtain ⟨s2, ε2⟩ : ∃ q : wt_St, q = wt_sa s1 (305 + i) w (0 : Int32) := ⟨_, rfl⟩
  rw [← ε2]
  have f1 := wt_fr_sa ε1
  have f2 := wt_fr_sa ε2
  have fs2 : wt_fr (fun _ _ => False) (fun i => 292 ≤ i ∧ i < 317) z s2 := (fp.sa ε1 (by (try dsimp only); omega)).sa ε2 (by (try dsimp only); omega)
  have rs2 : wt_RI s2 := NI (NI rp ε1 (by omega) (by omega)) ε2 (by omega) (by omega)
  -- a row of a state that differs from p.2 at this word of this place alone
  have NX : ∀ q : wt_St, wt_RI q → wt_fr (fun _ _ => False) (fun i => 292 ≤ i ∧ i < 317) z q → (∀ a b, a ≠ 292 + i → a ≠ 305 + i → wt_ga q a b = wt_ga p.2 a b) → (∀ a b, b ≠ w → wt_ga q a b = wt_ga p.2 a b) → wu_LR s z q W m o i w → wt_H (K2 ((p.1 + (1 : Int32)), q)) (fun q => wt_fr (fun _ _ => False) (fun i => 292 ≤ i ∧ i < 317) z q ∧ ∀ i, i < m → ∀ w, w < W → wu_LR s z q W m o i w) := fun q rq fq q1 q2 q3 => by
    refine hK2 _ ⟨⟨by show 0 ≤ (p.1 + (1 : Int32)).toInt; omega, by show (p.1 + (1 : Int32)).toInt ≤ _; omega⟩, rq, fq, fun i' h1 h2 w' hw' => ?_, fun w' hw' => ?_⟩
    · have := j2 i' h1 h2 w' hw'
      unfold wu_LR at this ⊢
      rw [q1 (292 + i') w' (by omega) (by omega), q1 (305 + i') w' (by omega) (by omega)]
      exact this
    · have hw2 : (w' : Int) < (p.1 + (1 : Int32)).toInt := hw'
      show wu_LR s z q W m o i w'
      by_cases x : w' = w
      · rw [x]
        exact q3
      · have := j3 w' (by omega)
        unfold wu_LR at this ⊢
        rw [q2 (292 + i) w' x, q2 (305 + i) w' x]
        exact this
  have D1 : ∀ a b, a ≠ 292 + i → a ≠ 305 + i → wt_ga s2 a b = wt_ga p.2 a b := fun a b h1 h2 => (f2.2 a h2 b).trans (f1.2 a h1 b)
  have D2 : ∀ a b, b ≠ w → wt_ga s2 a b = wt_ga p.2 a b := fun a b hb => by
    by_cases x : a = 305 + i
    · rw [x, wt_w_sa ε2 b hb]
      exact f1.2 (305 + i) (by (try dsimp only); omega) b
    · rw [f2.2 a x b]
      by_cases y : a = 292 + i
      · rw [y, wt_w_sa ε1 b hb]
      · exact f1.2 a y b
  refine wt_H_bh (wh_isOfM n (RR _ fs2) ep.symm (by omega) h1 ei.symm (by omega)) (fun q8 e8 => ?_)
  obtain ⟨e8, e9⟩ := e8
  rw [e8]
  unfold wp_md_laysRests_B279
  rcases e9 with ⟨o1, o2⟩ | ⟨o1, o2⟩
  rotate_left
  · rw [if_pos (show q8.1 = 0 from o1)]
    refine NX s2 rs2 fs2 D1 D2 ⟨?_, ?_⟩
    · rw [o2, if_neg (by decide), f2.2 (292 + i) (by (try dsimp only); omega), wt_v_sa ε1]
      exact wt_lm1
    · rw [o2, if_neg (by decide), wt_v_sa ε2]
      exact k0
  rw [if_neg (show ¬ q8.1 = 0 by rw [o1]; decide), fs2.2 253 (by (try dsimp only); omega)]
  refine wt_H_gd (fun _ => wt_H_if (fun g => ?_) (fun g => ?_))
  · -- the last place
    have g' := wt_ceq g
    have im : i = m - 1 := by omega
    refine wt_H_gd (fun _ => ?_)
    refine wt_H_bh (wh_priceM n (RR _ fs2) rs2 ep.symm (by omega)) (fun q42 h42 => ?_)
    obtain ⟨h42, v42⟩ := h42
    rw [PW _ _ fs2 (by omega)] at v42
    refine wt_H_gd (fun _ => wt_H_gd (fun _ => wt_H_gd (fun _ => ?_)))
    rw [h42]
    obtain ⟨s3, ε3⟩ : ∃ q : wt_St, q = wt_sa s2 (292 + i) w q42.1 := ⟨_, rfl⟩
    rw [← ε3]
    obtain ⟨s4, ε4⟩ : ∃ q : wt_St, q = wt_sa s3 (305 + i) w (1 : Int32) := ⟨_, rfl⟩
    rw [← ε4]
    have f3 := wt_fr_sa ε3
    have f4 := wt_fr_sa ε4
    refine NX s4 (NI (NI rs2 ε3 (by omega) (by omega)) ε4 (by omega) (by omega)) ((fs2.sa ε3 (by (try dsimp only); omega)).sa ε4 (by (try dsimp only); omega)) (fun a b h1 h2 => (f4.2 a h2 b).trans ((f3.2 a h1 b).trans (D1 a b h1 h2))) (fun a b hb => ?_) ⟨?_, ?_⟩
    · by_cases x : a = 305 + i
      · rw [x, wt_w_sa ε4 b hb, f3.2 (305 + i) (by (try dsimp only); omega) b]
        exact D2 _ b hb
      · rw [f4.2 a x b]
        by_cases y : a = 292 + i
        · rw [y, wt_w_sa ε3 b hb]
          exact D2 _ b hb
        · rw [f3.2 a y b]
          exact D2 _ b hb
    · rw [o2, if_pos rfl, f4.2 (292 + i) (by (try dsimp only); omega), wt_v_sa ε3, v42, show m - 1 - i = 0 by omega]
      rfl
    · rw [o2, if_pos rfl, wt_v_sa ε4, k1, show m - 1 - i = 0 by omega]
      rfl
  -- a place ahead of others
  have g' : i + 1 < m := by
    have := wt_nceq g
    omega
  obtain ⟨Pv, hPv⟩ : ∃ Pv : Nat → Bool, Pv = fun v => wu_of s (o (i + 1)) v && wu_mf s w v := ⟨_, rfl⟩
  obtain ⟨dd, hdd⟩ : ∃ dd : Nat, dd = m - 1 - (i + 1) := ⟨_, rfl⟩
  have ei1 : (u.1 + (1 : Int32)).toInt = ((i + 1 : Nat) : Int) := by omega
  have en1 : Int32.toNatClampNeg (u.1 + (1 : Int32)) = i + 1 := wt_tnN ei1
  refine wt_H_it (fun v : Int32 × Int32 × wt_St => (0 ≤ v.2.1.toInt ∧ v.2.1.toInt ≤ (W : Int)) ∧ wt_RI v.2.2 ∧ wt_fr (fun _ _ => False) (fun a => a = 305 + i) s2 v.2.2 ∧ (∀ b, b ≠ w → wt_ga v.2.2 (305 + i) b = wt_ga s2 (305 + i) b) ∧ v.1.toInt = wu_bs (fun x => wu_pr s z W m o dd x) Pv (Int32.toNatClampNeg v.2.1) ∧ (wt_ga v.2.2 (305 + i) w).toInt = wu_cp (wt_sum (fun x => if Pv x = true then wu_wy s W m o dd x else 0) (Int32.toNatClampNeg v.2.1))) (fun K3 v L hK3 => ?_) n _ ⟨⟨by show 0 ≤ ((0 : Int32)).toInt; omega, by show ((0 : Int32)).toInt ≤ _; omega⟩, rs2, wt_fr.rf, fun _ _ => rfl, by show ((-1 : Int32)).toInt = wu_bs _ _ (Int32.toNatClampNeg (0 : Int32)); rw [wt_tn0, wt_lm1]; rfl, by
    show (wt_ga s2 (305 + i) w).toInt = wu_cp (wt_sum _ (Int32.toNatClampNeg (0 : Int32)))
    rw [wt_tn0, wt_v_sa ε2, k0]
    rfl⟩
  obtain ⟨⟨l0, l1⟩, rv, fv, l2, l3, l4⟩ := L
  have ev := wt_tnI l0
  have Fv : wt_fr (fun _ _ => False) (fun i => 292 ≤ i ∧ i < 317) z v.2.2 := wt_fr.tr fs2 fv (fun _ _ h => h) (fun a h => by have h' : a = 305 + i := h; omega)
  have E1 : ∀ a b, a ≠ 292 + i → a ≠ 305 + i → wt_ga v.2.2 a b = wt_ga p.2 a b := fun a b h1 h2 => (fv.2 a h2 b).trans (D1 a b h1 h2)
  have E2 : ∀ a b, b ≠ w → wt_ga v.2.2 a b = wt_ga p.2 a b := fun a b hb => by
    by_cases x : a = 305 + i
    · rw [x, l2 b hb]
      exact D2 _ b hb
    · rw [fv.2 a x b]
      exact D2 _ b hb
  unfold wp_md_laysRests_B97 wp_md_laysRests_B278 wp_md_laysRests_B279
  rw [Fv.1 108 28 (fun h => h), ← hi, ← hww]
  refine wt_H_if (fun h => ?_) (fun h => ?_)
  · -- all that can follow are seen
    have h' := wt_cle h
    have eW : Int32.toNatClampNeg v.2.1 = W := by omega
    rw [eW] at l3 l4
    have many : wu_cp (wu_wy s W m o (m - 1 - i) w) = wu_cp (wt_sum (fun x => if Pv x = true then wu_wy s W m o dd x else 0) W) := by
      rw [show m - 1 - i = dd + 1 by omega, hPv]
      show wu_cp (wt_sum (fun v => if (wu_of s (o (m - 1 - dd)) v && wu_mf s w v) = true then wu_wy s W m o dd v else 0) W) = _
      rw [show m - 1 - dd = i + 1 by omega]
    have prs : wu_pr s z W m o (m - 1 - i) w = if wu_bs (fun x => wu_pr s z W m o dd x) Pv W = -1 then -1 else wu_bs (fun x => wu_pr s z W m o dd x) Pv W + wu_pw z w := by
      rw [show m - 1 - i = dd + 1 by omega, hPv]
      show (if wu_bs (fun v => wu_pr s z W m o dd v) (fun v => wu_of s (o (m - 1 - dd)) v && wu_mf s w v) W = -1 then -1 else wu_bs (fun v => wu_pr s z W m o dd v) (fun v => wu_of s (o (m - 1 - dd)) v && wu_mf s w v) W + wu_pw z w) = _
      rw [show m - 1 - dd = i + 1 by omega]
    have FIN : ∀ y : Int32, y.toInt = wu_pr s z W m o (m - 1 - i) w → wt_H (K2 ((p.1 + (1 : Int32)), wt_sa v.2.2 (292 + i) w y)) (fun q => wt_fr (fun _ _ => False) (fun i => 292 ≤ i ∧ i < 317) z q ∧ ∀ i, i < m → ∀ w, w < W → wu_LR s z q W m o i w) := fun y hy => by
      obtain ⟨s3, ε3⟩ : ∃ q : wt_St, q = wt_sa v.2.2 (292 + i) w y := ⟨_, rfl⟩
      rw [← ε3]
      have f3 := wt_fr_sa ε3
      refine NX s3 (NI rv ε3 (by omega) (by omega)) (Fv.sa ε3 (by (try dsimp only); omega)) (fun a b h1 h2 => (f3.2 a h1 b).trans (E1 a b h1 h2)) (fun a b hb => ?_) ⟨?_, ?_⟩
      · by_cases y : a = 292 + i
        · rw [y, wt_w_sa ε3 b hb]
          exact E2 _ b hb
        · rw [f3.2 a y b]
          exact E2 _ b hb
      · rw [o2, if_pos rfl, wt_v_sa ε3]
        exact hy
      · rw [o2, if_pos rfl, f3.2 (305 + i) (by (try dsimp only); omega), l4, many]
    refine wt_H_gd (fun _ => wt_H_if (fun y => ?_) (fun y => ?_))
    · refine wt_H_gd (fun _ => FIN _ ?_)
      rw [prs, ← l3, y, wt_lm1, if_pos rfl]
    · have y' : v.1.toInt ≠ -1 := fun h => y (wt_eqI (by rw [h, wt_lm1]))
      refine wt_H_bh (wh_priceM n (RR _ Fv) rv ep.symm (by omega)) (fun q15 h15 => ?_)
      obtain ⟨h15, v15⟩ := h15
      rw [PW _ _ Fv (by omega)] at v15
      rw [h15]
      have pb := wu_pw_bd R r (show w < W by omega)
      have sp := wu_bs_sp (f := fun x => wu_pr s z W m o dd x) (P := Pv) W
      have bb : 0 ≤ v.1.toInt ∧ v.1.toInt ≤ 10692 := by
        rw [l3]
        rcases sp with ⟨q, -⟩ | ⟨x, x1, -, x3, x4⟩
        · rw [← l3] at q
          exact absurd q y'
        · rw [x4]
          have x3' : wu_pr s z W m o dd x ≠ -1 := x3
          rcases (wu_pr_sp R r dd (by omega) x x1).1 with q | q
          · exact absurd q x3'
          · exact ⟨q.1, by omega⟩
      have ea := wt_addE (x := v.1) (y := q15.1) (by omega) (by omega)
      refine wt_H_gd (fun _ => FIN _ ?_)
      rw [prs, ← l3, if_neg y', ea, v15]
  have h' := wt_ncle h
  have evi := wt_i1 (c := v.2.1) (by omega)
  have env : Int32.toNatClampNeg (v.2.1 + (1 : Int32)) = Int32.toNatClampNeg v.2.1 + 1 := by have := wt_tnI (x := v.2.1 + (1 : Int32)) (by omega); omega
  obtain ⟨x, hx⟩ : ∃ x : Nat, x = Int32.toNatClampNeg v.2.1 := ⟨_, rfl⟩
  rw [← hx] at ev l3 l4 env
  have hxW : x < W := by omega
  have bsS : wu_bs (fun x => wu_pr s z W m o dd x) Pv (x + 1) = if Pv x = true ∧ wu_pr s z W m o dd x ≠ -1 ∧ (wu_bs (fun x => wu_pr s z W m o dd x) Pv x = -1 ∨ wu_pr s z W m o dd x < wu_bs (fun x => wu_pr s z W m o dd x) Pv x) then wu_pr s z W m o dd x else wu_bs (fun x => wu_pr s z W m o dd x) Pv x := rfl
  have smS : wt_sum (fun x => if Pv x = true then wu_wy s W m o dd x else 0) (x + 1) = wt_sum (fun x => if Pv x = true then wu_wy s W m o dd x else 0) x + if Pv x = true then wu_wy s W m o dd x else 0 := rfl
  have snn := (wt_sum_bd (f := fun x => if Pv x = true then wu_wy s W m o dd x else 0) (c := wu_p5 dd) x (fun k _ => by
    have b := wu_wy_bd R dd (by omega) k
    have p5 := wu_p5_bd dd (by omega)
    show 0 ≤ (if Pv k = true then wu_wy s W m o dd k else 0) ∧ (if Pv k = true then wu_wy s W m o dd k else 0) ≤ wu_p5 dd
    split <;> omega)).1
  have LRx := j2 (i + 1) (by omega) g' x hxW
  have q292 : ∀ b, wt_ga v.2.2 (292 + (i + 1)) b = wt_ga p.2 (292 + (i + 1)) b := fun b => E1 _ b (by omega) (by omega)
  have q305 : ∀ b, wt_ga v.2.2 (305 + (i + 1)) b = wt_ga p.2 (305 + (i + 1)) b := fun b => E1 _ b (by omega) (by omega)
  -- it adds nothing
  have SKIP : (Pv x = true → wu_pr s z W m o dd x = -1) → wt_H (wp_md_laysRests_B247 n x1 u.1 p.1 v.1 v.2.1 K K2 K3 v.2.2) (fun q => wt_fr (fun _ _ => False) (fun i => 292 ≤ i ∧ i < 317) z q ∧ ∀ i, i < m → ∀ w, w < W → wu_LR s z q W m o i w) := fun hs => by
    unfold wp_md_laysRests_B247
    refine hK3 _ ⟨⟨by show 0 ≤ (v.2.1 + (1 : Int32)).toInt; omega, by show (v.2.1 + (1 : Int32)).toInt ≤ _; omega⟩, rv, fv, l2, ?_, ?_⟩
    · show v.1.toInt = wu_bs _ _ (Int32.toNatClampNeg (v.2.1 + (1 : Int32)))
      rw [env, bsS, if_neg (fun q => q.2.1 (hs q.1))]
      exact l3
    · show (wt_ga v.2.2 (305 + i) w).toInt = wu_cp (wt_sum _ (Int32.toNatClampNeg (v.2.1 + (1 : Int32))))
      rw [env, smS]
      have : (if Pv x = true then wu_wy s W m o dd x else 0) = 0 := by
        by_cases q : Pv x = true
        · rw [if_pos q]
          exact ((wu_pr_sp R r dd (by omega) x hxW).2).mp (hs q)
        · rw [if_neg q]
      rw [this, Int.add_zero]
      exact l4
  refine wt_H_bh (wh_isOfM n (RR _ Fv) (x := v.2.1) (v := x) (y2 := u.1 + (1 : Int32)) (i := i + 1) ev.symm hxW h1 ei1 g') (fun q17 h17 => ?_)
  obtain ⟨h17, q17'⟩ := h17
  rw [h17]
  rcases q17' with ⟨b1, b2⟩ | ⟨b1, b2⟩
  rotate_left
  · rw [if_pos (show q17.1 = 0 from b1)]
    exact SKIP (fun q => by rw [hPv] at q; dsimp only at q; rw [b2, Bool.false_and] at q; exact absurd q (by decide))
  rw [if_neg (show ¬ q17.1 = 0 by rw [b1]; decide)]
  refine wt_H_bh (wh_mayM n (RR _ Fv) (x := p.1) (y := v.2.1) (w := w) (v := x) ep.symm ev.symm (by omega) hxW) (fun q19 h19 => ?_)
  obtain ⟨h19, q19'⟩ := h19
  rw [h19]
  rcases q19' with ⟨c1, c2⟩ | ⟨c1, c2⟩
  rotate_left
  · rw [if_pos (show q19.1 = 0 from c1)]
    exact SKIP (fun q => by rw [hPv] at q; dsimp only at q; rw [c2, Bool.and_false] at q; exact absurd q (by decide))
  rw [if_neg (show ¬ q19.1 = 0 by rw [c1]; decide)]
  have Px : Pv x = true := by rw [hPv]; show (wu_of s (o (i + 1)) x && wu_mf s w x) = true; rw [b2, c2]; rfl
  unfold wu_LR at LRx
  rw [b2, if_pos rfl, if_pos rfl, ← hdd, ← q292, ← q305] at LRx
  obtain ⟨L1, L2⟩ := LRx
  rw [en1, ← hx]
  refine wt_H_gd (fun _ => wt_H_gd (fun _ => wt_H_if (fun y => ?_) (fun y => ?_)))
  · exact SKIP (fun _ => by rw [← L1, y, wt_lm1])
  have y' : wu_pr s z W m o dd x ≠ -1 := fun h => y (wt_eqI (by rw [L1, h, wt_lm1]))
  have wyb := wu_wy_bd R dd (by omega) x
  have c2b := wu_cp_bd (a := wu_wy s W m o dd x) wyb.1
  have c1b := wu_cp_bd snn
  have ea := wt_addE (x := wt_ga v.2.2 (305 + i) w) (y := wt_ga v.2.2 (305 + (i + 1)) x) (by omega) (by omega)
  have ADD : ∀ y0 : Int32, y0.toInt = wu_bs (fun x => wu_pr s z W m o dd x) Pv (x + 1) → wt_H (wp_md_laysRests_B185 n x1 u.1 p.1 v.2.1 K K2 K3 y0 v.2.2) (fun q => wt_fr (fun _ _ => False) (fun i => 292 ≤ i ∧ i < 317) z q ∧ ∀ i, i < m → ∀ w, w < W → wu_LR s z q W m o i w) := fun y0 hy0 => by
    unfold wp_md_laysRests_B185 wp_md_laysRests_B246 wp_md_laysRests_B247
    rw [← hi, ← hww, en1, ← hx]
    have PUT : ∀ y2 : Int32, y2.toInt = wu_cp (wt_sum (fun x => if Pv x = true then wu_wy s W m o dd x else 0) (x + 1)) → wt_H (K3 (y0, (v.2.1 + (1 : Int32)), wt_sa v.2.2 (305 + i) w y2)) (fun q => wt_fr (fun _ _ => False) (fun i => 292 ≤ i ∧ i < 317) z q ∧ ∀ i, i < m → ∀ w, w < W → wu_LR s z q W m o i w) := fun y2 hy2 => by
      obtain ⟨s3, ε3⟩ : ∃ q : wt_St, q = wt_sa v.2.2 (305 + i) w y2 := ⟨_, rfl⟩
      rw [← ε3]
      refine hK3 _ ⟨⟨by show 0 ≤ (v.2.1 + (1 : Int32)).toInt; omega, by show (v.2.1 + (1 : Int32)).toInt ≤ _; omega⟩, NI rv ε3 (by omega) (by omega), fv.sa ε3 rfl, fun b hb => (wt_w_sa ε3 b hb).trans (l2 b hb), ?_, ?_⟩
      · show y0.toInt = wu_bs _ _ (Int32.toNatClampNeg (v.2.1 + (1 : Int32)))
        rw [env]
        exact hy0
      · show (wt_ga s3 (305 + i) w).toInt = wu_cp (wt_sum _ (Int32.toNatClampNeg (v.2.1 + (1 : Int32))))
        rw [env, wt_v_sa ε3]
        exact hy2
    have cadd : wu_cp (wt_sum (fun x => if Pv x = true then wu_wy s W m o dd x else 0) (x + 1)) = wu_cp ((wt_ga v.2.2 (305 + i) w).toInt + (wt_ga v.2.2 (305 + (i + 1)) x).toInt) := by
      rw [smS, if_pos Px, l4, L2, wu_cp_add snn wyb.1]
    refine wt_H_gd (fun _ => wt_H_gd (fun _ => wt_H_gd (fun _ => wt_H_gd (fun _ => wt_H_gd (fun _ => wt_H_if (fun q => ?_) (fun q => ?_))))))
    · have q' := wt_cle q
      refine wt_H_gd (fun _ => wt_H_gd (fun _ => wt_H_gd (fun _ => wt_H_gd (fun _ => wt_H_gd (fun _ => PUT _ ?_)))))
      rw [cadd, ea]
      unfold wu_cp
      rw [if_pos (by omega)]
    · have q' := wt_ncle q
      refine wt_H_gd (fun _ => PUT _ ?_)
      rw [cadd, kM]
      unfold wu_cp
      rw [if_neg (by omega)]
  have TAKE : (wu_bs (fun x => wu_pr s z W m o dd x) Pv x = -1 ∨ wu_pr s z W m o dd x < wu_bs (fun x => wu_pr s z W m o dd x) Pv x) → wt_H (wp_md_laysRests_B169 n x1 u.1 p.1 v.2.1 K K2 K3 v.2.2) (fun q => wt_fr (fun _ _ => False) (fun i => 292 ≤ i ∧ i < 317) z q ∧ ∀ i, i < m → ∀ w, w < W → wu_LR s z q W m o i w) := fun hq => by
    unfold wp_md_laysRests_B169
    rw [en1, ← hx]
    refine wt_H_gd (fun _ => wt_H_gd (fun _ => ADD _ ?_))
    rw [bsS, if_pos ⟨Px, y', hq⟩]
    exact L1
  refine wt_H_if (fun q => TAKE (Or.inl (by rw [← l3, q, wt_lm1]))) (fun q => ?_)
  have q' : v.1.toInt ≠ -1 := fun h => q (wt_eqI (by rw [h, wt_lm1]))
  refine wt_H_gd (fun _ => wt_H_gd (fun _ => wt_H_if (fun b => ?_) (fun b => ?_)))
  · have b' := wt_cle b
    refine ADD _ ?_
    rw [bsS, if_neg (fun a => by
      rcases a.2.2 with a | a
      · rw [← l3] at a
        exact q' a
      · omega)]
    exact l3
  · have b' := wt_ncle b
    exact TAKE (Or.inr (by omega))
end WTQ4
-- 96y.wordings.lean.txt
section WTQ5
/-! wordings on both sides -/
theorem wh_wordsSum (n : Nat) {s z q : wt_St} {t m W G : Nat} {o : Nat → Nat} (R : wu_RW s z t m W G o) (h28 : (wt_gf q 108 28).toInt = (W : Int)) (lr : ∀ w, w < W → wu_LR s z q W m o 0 w) : wt_H (wt_it (wp_md_wordings_B37 n) n ((0 : Int32), (0 : Int32), q)) (fun y => y.2 = q ∧ y.1.toInt = wu_cp (wt_sum (fun w => if wu_of s (o 0) w = true then wu_wy s W m o (m - 1) w else 0) W)) := by
  have k0 : (0 : Int32).toInt = 0 := by decide
  have kM : (1000000 : Int32).toInt = 1000000 := by decide
  have e0 : Int32.toNatClampNeg (0 : Int32) = 0 := by decide
  have hm := R.1.2.1
  have hW := R.1.2.2.2.1
  have nn : ∀ k, 0 ≤ (if wu_of s (o 0) k = true then wu_wy s W m o (m - 1) k else 0) := fun k => by
    have := (wu_wy_bd R (m - 1) (by omega) k).1
    split <;> omega
  refine wt_H_it (fun t : Int32 × Int32 × wt_St => t.2.2 = q ∧ (0 ≤ t.2.1.toInt ∧ t.2.1.toInt ≤ (W : Int)) ∧ t.1.toInt = wu_cp (wt_sum (fun w => if wu_of s (o 0) w = true then wu_wy s W m o (m - 1) w else 0) (Int32.toNatClampNeg t.2.1))) (fun K t I hK => ?_) n _ ⟨rfl, ⟨by show 0 ≤ ((0 : Int32)).toInt; omega, by show ((0 : Int32)).toInt ≤ _; omega⟩, by show ((0 : Int32)).toInt = wu_cp (wt_sum _ (Int32.toNatClampNeg (0 : Int32))); rw [wt_tn0, k0]; rfl⟩
  obtain ⟨i0, ⟨i1, i2⟩, i3⟩ := I
  have et := wt_tnI i1
  unfold wp_md_wordings_B37 wp_md_wordings_B77
  rw [i0, e0]
  refine wt_H_if (fun c => ?_) (fun c => ?_)
  · have c' := wt_cle c
    refine wt_H_some ⟨rfl, ?_⟩
    show t.1.toInt = _
    rw [i3, show Int32.toNatClampNeg t.2.1 = W by omega]
  · have c' := wt_ncle c
    have ei := wt_i1 (c := t.2.1) (by omega)
    obtain ⟨w, hw⟩ : ∃ w : Nat, w = Int32.toNatClampNeg t.2.1 := ⟨_, rfl⟩
    have en : Int32.toNatClampNeg (t.2.1 + (1 : Int32)) = w + 1 := by have := wt_tnI (x := t.2.1 + (1 : Int32)) (by omega); omega
    rw [← hw] at et i3 ⊢
    have L := (lr w (by omega)).2
    have sn := wt_sum_ge (f := fun w => if wu_of s (o 0) w = true then wu_wy s W m o (m - 1) w else 0) (m := w + 1) (v := w) (fun k _ => nn k) (by omega)
    have sp := wt_sum_pre (f := fun w => if wu_of s (o 0) w = true then wu_wy s W m o (m - 1) w else 0) (a := 0) w (by omega) (fun k _ => nn k)
    have sp' : 0 ≤ wt_sum (fun w => if wu_of s (o 0) w = true then wu_wy s W m o (m - 1) w else 0) w := sp
    have Lc : (wt_ga q (305 + 0) w).toInt = wu_cp (if wu_of s (o 0) w = true then wu_wy s W m o (m - 1) w else 0) := by
      rw [L]
      by_cases x : wu_of s (o 0) w = true
      · rw [if_pos x, if_pos x]
        rfl
      · rw [if_neg x, if_neg x]
        rfl
    have c1 := wu_cp_bd sp'
    have c2 := wu_cp_bd (nn w)
    have ea := wt_addE (x := t.1) (y := wt_ga q (305 + 0) w) (by omega) (by omega)
    have smS : wt_sum (fun w => if wu_of s (o 0) w = true then wu_wy s W m o (m - 1) w else 0) (w + 1) = wt_sum (fun w => if wu_of s (o 0) w = true then wu_wy s W m o (m - 1) w else 0) w + if wu_of s (o 0) w = true then wu_wy s W m o (m - 1) w else 0 := rfl
    have N : ∀ y : Int32, y.toInt = wu_cp (t.1.toInt + (wt_ga q (305 + 0) w).toInt) → wt_H (K (y, (t.2.1 + (1 : Int32)), q)) (fun y => y.2 = q ∧ y.1.toInt = wu_cp (wt_sum (fun w => if wu_of s (o 0) w = true then wu_wy s W m o (m - 1) w else 0) W)) := fun y hy => by
      refine hK _ ⟨rfl, ⟨by show 0 ≤ (t.2.1 + (1 : Int32)).toInt; omega, by show (t.2.1 + (1 : Int32)).toInt ≤ _; omega⟩, ?_⟩
      show y.toInt = wu_cp (wt_sum _ (Int32.toNatClampNeg (t.2.1 + (1 : Int32))))
      rw [en, hy, i3, Lc, smS]
      exact wu_cp_add sp' (nn w)
    refine wt_H_gd (fun _ => wt_H_gd (fun _ => wt_H_if (fun d => ?_) (fun d => ?_)))
    · have d' := wt_cle d
      refine wt_H_gd (fun _ => wt_H_gd (fun _ => N _ ?_))
      rw [ea]
      unfold wu_cp
      rw [if_pos (by omega)]
    · have d' := wt_ncle d
      refine N _ ?_
      unfold wu_cp
      rw [kM, if_neg (by omega)]
theorem wr_wordings (n : Nat) (hn : 4294967297 < n) {x1 : Int32} {s z : wt_St} (v : wt_IV z) (rl : wu_RL s z) : wt_HH (wp_ap_wordings n x1 s) (wp_md_wordings n x1 z) (fun q y => (q.1 = 2 ∧ wt_gf y.2 108 0 = 1) ∨ (q.1 = 0 ∧ wt_gf y.2 108 0 = 0 ∧ q.2.1 = y.1)) := by
  have kM : (1000000 : Int32).toInt = 1000000 := by decide
  unfold wp_ap_wordings wp_md_wordings
  obtain ⟨z0, ε0⟩ : ∃ o : wt_St, o = wt_sf z 108 0 (0 : Int32) := ⟨_, rfl⟩
  rw [← ε0]
  have g0 := wt_fr_sf ε0
  have t0 : wt_gf z0 108 0 = 0 := wt_v_sf ε0
  have r0 : wt_RI z0 := wt_RI_fno v.1 ε0 (Or.inr (by decide +kernel))
  obtain ⟨-, -, to, lc, tx, sc, -⟩ := wu_RL_z0 rl v.1 g0
  have hz : 0 ≤ (wt_gf z0 108 39).toInt ∧ (wt_gf z0 108 39).toInt ≤ 8 := wt_Rf7 r0
  refine wr_gT n (wp_ap_wordings_B16 n x1) (wp_md_wordings_B19 n x1) tx.1 hz (wr_mb1 n t0 (by decide) (Or.inl ⟨rfl, wt_v_sf rfl⟩)) (fun hx0 hx1 => wr_mb0 n t0 ?_)
  have et := wt_tnI hx0
  obtain ⟨m, W, G, o, R⟩ := wu_RW_of to lc tx r0 (t := Int32.toNatClampNeg x1) (by omega)
  have R' := R
  obtain ⟨⟨a1, a2, a3, a4, a5⟩, ⟨-, -, a7⟩, a8, -, gs, -⟩ := R'
  refine wt_HH_l (wh_howMany n hn R et.symm) (fun q4 h4 => ?_)
  obtain ⟨h4, h4n⟩ := h4
  refine wt_HH_r (wh_laysRests n hn R r0 et.symm) (fun q5 h5 => ?_)
  obtain ⟨f5, lr⟩ := h5
  refine wt_HH_rr (wh_wordsSum n R (by rw [f5.1 108 28 (fun h => h)]; exact a7) (fun w hw => lr 0 (by omega) w hw)) (fun y hy => wt_H_some (Or.inr ⟨rfl, ?_, wt_eqI ?_⟩))
  · show wt_gf y.2 108 0 = 0
    rw [hy.1, f5.1 108 0 (fun h => h)]
    exact t0
  · show (if (1000000 : Int32) < q4.1 then (1000000 : Int32) else q4.1).toInt = y.1.toInt
    have sg := wu_seg gs a5 a4 (a8 0 (by omega)).1 (fun _ => true) (fun v => wu_wy s W m o (m - 1) v)
    have e1 : wt_sum (fun w => if wu_of s (o 0) w = true then wu_wy s W m o (m - 1) w else 0) W = q4.1.toInt := by
      rw [h4]
      have a : wt_sum (fun w => if wu_of s (o 0) w = true then wu_wy s W m o (m - 1) w else 0) W = wt_sum (fun v => if (wu_of s (o 0) v && (fun _ => true) v) = true then (fun v => wu_wy s W m o (m - 1) v) v else 0) W := wt_sum_congr W (fun k _ => by
        show (if wu_of s (o 0) k = true then wu_wy s W m o (m - 1) k else 0) = if (wu_of s (o 0) k && true) = true then wu_wy s W m o (m - 1) k else 0
        rw [Bool.and_true])
      rw [a, sg]
      exact wt_sum_congr _ (fun k _ => if_pos rfl)
    rw [hy.2, e1]
    unfold wu_cp
    by_cases c : (1000000 : Int32) < q4.1
    · have c' := wt_clt c
      rw [if_pos c, if_neg (by omega), kM]
    · have c' := wt_ncl c
      rw [if_neg c, if_pos (by omega)]
end WTQ5
