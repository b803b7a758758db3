-- 96j.rmops.lean.txt
section WTQ0
set_option maxHeartbeats 4000000 in
theorem wk2_feed (n : Nat) (hn : 4294967297 < n) {σ : wt_St} (x1 x2 x3 x4 x5 : Int32) (v : wt_IV σ) (j : wu_RM σ) : wt_H (wp_ap_feed n x1 x2 x3 x4 x5 σ) (fun q => wt_H (wp_md_feed n x1 x2 x3 x4 x5 q.2) (fun r => wu_RM r.2)) := by
  refine (wq_ap_feed n hn x1 x2 x3 x4 x5 σ).h.imp (fun q hq => ?_)
  have fq := hq.1
  have v2 : wt_IV q.2 := wt_IV_cls v fq (fun k => (by (try dsimp only); first | omega | exact fun h => h | (intros; omega) | decide)) (fun i hi => (by (try dsimp only); first | omega | exact fun h => h | (intros; omega) | decide))
  refine (wq_md_feed n hn x1 x2 x3 x4 x5 q.2 v2.1).h.imp (fun r hr => ?_)
  have fr := hr.1
  exact wu_RM_fr v.1 v2.1 j fq fr (fun i k h => by unfold wu_mF at h; (try dsimp only); first | omega | exact fun h => h) (fun i h => by unfold wu_mA at h; (try dsimp only); first | omega | exact fun h => h) (fun k => by (try dsimp only); first | omega | exact fun h => h) (fun i h => by (try dsimp only); first | omega | exact fun h => h) (fun i k h => by (try dsimp only); first | omega | exact fun h => h) (fun i h => by (try dsimp only); first | omega | exact fun h => h) (fun k h => by unfold wu_mG at h; (try dsimp only); first | omega | exact fun h => h) (fun i h => by unfold wu_mB at h; (try dsimp only); first | omega | exact fun h => h)
set_option maxHeartbeats 4000000 in
theorem wk2_fault (n : Nat) (hn : 4294967297 < n) {σ : wt_St} (v : wt_IV σ) (j : wu_RM σ) : wt_H (wp_ap_fault n σ) (fun q => wt_H (wp_md_fault n q.2) (fun r => wu_RM r.2)) := by
  refine (wq_ap_fault n hn σ).h.imp (fun q hq => ?_)
  have fq := (by rw [hq]; exact wt_fr.rf : wt_fr (fun _ _ => False) (fun _ => False) σ q.2)
  have v2 : wt_IV q.2 := wt_IV_cls v fq (fun k => (by (try dsimp only); first | omega | exact fun h => h | (intros; omega) | decide)) (fun i hi => (by (try dsimp only); first | omega | exact fun h => h | (intros; omega) | decide))
  refine (wq_md_fault n hn q.2 v2.1).h.imp (fun r hr => ?_)
  have fr := hr.1
  exact wu_RM_fr v.1 v2.1 j fq fr (fun i k h => by unfold wu_mF at h; (try dsimp only); first | omega | exact fun h => h) (fun i h => by unfold wu_mA at h; (try dsimp only); first | omega | exact fun h => h) (fun k => by (try dsimp only); first | omega | exact fun h => h) (fun i h => by (try dsimp only); first | omega | exact fun h => h) (fun i k h => by (try dsimp only); first | omega | exact fun h => h) (fun i h => by (try dsimp only); first | omega | exact fun h => h) (fun k h => by unfold wu_mG at h; (try dsimp only); first | omega | exact fun h => h) (fun i h => by unfold wu_mB at h; (try dsimp only); first | omega | exact fun h => h)
set_option maxHeartbeats 4000000 in
theorem wk2_told (n : Nat) (hn : 4294967297 < n) {σ : wt_St} (x1 : Int32) (v : wt_IV σ) (j : wu_RM σ) : wt_H (wp_ap_told n x1 σ) (fun q => wt_H (wp_md_told n x1 q.2.2) (fun r => wu_RM r.2)) := by
  refine (wq_ap_told n hn x1 σ).h.imp (fun q hq => ?_)
  have fq := (by rw [hq.1]; exact wt_fr.rf : wt_fr (fun _ _ => False) (fun _ => False) σ q.2.2)
  have v2 : wt_IV q.2.2 := wt_IV_cls v fq (fun k => (by (try dsimp only); first | omega | exact fun h => h | (intros; omega) | decide)) (fun i hi => (by (try dsimp only); first | omega | exact fun h => h | (intros; omega) | decide))
  refine (wq_md_told n hn x1 q.2.2 v2.1).h.imp (fun r hr => ?_)
  have fr := hr.1
  exact wu_RM_fr v.1 v2.1 j fq fr (fun i k h => by unfold wu_mF at h; (try dsimp only); first | omega | exact fun h => h) (fun i h => by unfold wu_mA at h; (try dsimp only); first | omega | exact fun h => h) (fun k => by (try dsimp only); first | omega | exact fun h => h) (fun i h => by (try dsimp only); first | omega | exact fun h => h) (fun i k h => by (try dsimp only); first | omega | exact fun h => h) (fun i h => by (try dsimp only); first | omega | exact fun h => h) (fun k h => by unfold wu_mG at h; (try dsimp only); first | omega | exact fun h => h) (fun i h => by unfold wu_mB at h; (try dsimp only); first | omega | exact fun h => h)
set_option maxHeartbeats 4000000 in
theorem wk2_letter (n : Nat) (hn : 4294967297 < n) {σ : wt_St} (x1 x2 : Int32) (v : wt_IV σ) (j : wu_RM σ) : wt_H (wp_ap_letter n x1 x2 σ) (fun q => wt_H (wp_md_letter n x1 x2 q.2.2) (fun r => wu_RM r.2)) := by
  refine (wq_ap_letter n hn x1 x2 σ).h.imp (fun q hq => ?_)
  have fq := (by rw [hq.1]; exact wt_fr.rf : wt_fr (fun _ _ => False) (fun _ => False) σ q.2.2)
  have v2 : wt_IV q.2.2 := wt_IV_cls v fq (fun k => (by (try dsimp only); first | omega | exact fun h => h | (intros; omega) | decide)) (fun i hi => (by (try dsimp only); first | omega | exact fun h => h | (intros; omega) | decide))
  refine (wq_md_letter n hn x1 x2 q.2.2 v2.1).h.imp (fun r hr => ?_)
  have fr := hr.1
  exact wu_RM_fr v.1 v2.1 j fq fr (fun i k h => by unfold wu_mF at h; (try dsimp only); first | omega | exact fun h => h) (fun i h => by unfold wu_mA at h; (try dsimp only); first | omega | exact fun h => h) (fun k => by (try dsimp only); first | omega | exact fun h => h) (fun i h => by (try dsimp only); first | omega | exact fun h => h) (fun i k h => by (try dsimp only); first | omega | exact fun h => h) (fun i h => by (try dsimp only); first | omega | exact fun h => h) (fun k h => by unfold wu_mG at h; (try dsimp only); first | omega | exact fun h => h) (fun i h => by unfold wu_mB at h; (try dsimp only); first | omega | exact fun h => h)
set_option maxHeartbeats 4000000 in
theorem wk2_piece (n : Nat) (hn : 4294967297 < n) {σ : wt_St} (x1 x2 x3 : Int32) (v : wt_IV σ) (j : wu_RM σ) : wt_H (wp_ap_piece n x1 x2 x3 σ) (fun q => wt_H (wp_md_piece n x1 x2 x3 q.2.2) (fun r => wu_RM r.2)) := by
  refine (wq_ap_piece n hn x1 x2 x3 σ).h.imp (fun q hq => ?_)
  have fq := (by rw [hq.1]; exact wt_fr.rf : wt_fr (fun _ _ => False) (fun _ => False) σ q.2.2)
  have v2 : wt_IV q.2.2 := wt_IV_cls v fq (fun k => (by (try dsimp only); first | omega | exact fun h => h | (intros; omega) | decide)) (fun i hi => (by (try dsimp only); first | omega | exact fun h => h | (intros; omega) | decide))
  refine (wq_md_piece n hn x1 x2 x3 q.2.2 v2.1).h.imp (fun r hr => ?_)
  have fr := hr.1
  exact wu_RM_fr v.1 v2.1 j fq fr (fun i k h => by unfold wu_mF at h; (try dsimp only); first | omega | exact fun h => h) (fun i h => by unfold wu_mA at h; (try dsimp only); first | omega | exact fun h => h) (fun k => by (try dsimp only); first | omega | exact fun h => h) (fun i h => by (try dsimp only); first | omega | exact fun h => h) (fun i k h => by (try dsimp only); first | omega | exact fun h => h) (fun i h => by (try dsimp only); first | omega | exact fun h => h) (fun k h => by unfold wu_mG at h; (try dsimp only); first | omega | exact fun h => h) (fun i h => by unfold wu_mB at h; (try dsimp only); first | omega | exact fun h => h)
set_option maxHeartbeats 4000000 in
theorem wk2_word (n : Nat) (hn : 4294967297 < n) {σ : wt_St} (x1 x2 : Int32) (v : wt_IV σ) (j : wu_RM σ) : wt_H (wp_ap_word n x1 x2 σ) (fun q => wt_H (wp_md_word n x1 x2 q.2.2) (fun r => wu_RM r.2)) := by
  refine (wq_ap_word n hn x1 x2 σ).h.imp (fun q hq => ?_)
  have fq := hq.1
  have v2 : wt_IV q.2.2 := wt_IV_cls v fq (fun k => (by (try dsimp only); first | omega | exact fun h => h | (intros; omega) | decide)) (fun i hi => (by (try dsimp only); first | omega | exact fun h => h | (intros; omega) | decide))
  refine (wq_md_word n hn x1 x2 q.2.2 v2.1).h.imp (fun r hr => ?_)
  have fr := hr.1
  exact wu_RM_fr v.1 v2.1 j fq fr (fun i k h => by unfold wu_mF at h; (try dsimp only); first | omega | exact fun h => h) (fun i h => by unfold wu_mA at h; (try dsimp only); first | omega | exact fun h => h) (fun k => by (try dsimp only); first | omega | exact fun h => h) (fun i h => by (try dsimp only); first | omega | exact fun h => h) (fun i k h => by (try dsimp only); first | omega | exact fun h => h) (fun i h => by (try dsimp only); first | omega | exact fun h => h) (fun k h => by unfold wu_mG at h; (try dsimp only); first | omega | exact fun h => h) (fun i h => by unfold wu_mB at h; (try dsimp only); first | omega | exact fun h => h)
set_option maxHeartbeats 4000000 in
theorem wk2_at (n : Nat) (hn : 4294967297 < n) {σ : wt_St} (x1 x2 : Int32) (v : wt_IV σ) (j : wu_RM σ) : wt_H (wp_ap_at n x1 x2 σ) (fun q => wt_H (wp_md_at n x1 x2 q.2.2) (fun r => wu_RM r.2)) := by
  refine (wq_ap_at n hn x1 x2 σ).h.imp (fun q hq => ?_)
  have fq := (by rw [hq.1]; exact wt_fr.rf : wt_fr (fun _ _ => False) (fun _ => False) σ q.2.2)
  have v2 : wt_IV q.2.2 := wt_IV_cls v fq (fun k => (by (try dsimp only); first | omega | exact fun h => h | (intros; omega) | decide)) (fun i hi => (by (try dsimp only); first | omega | exact fun h => h | (intros; omega) | decide))
  refine (wq_md_at n hn x1 x2 q.2.2 v2.1).h.imp (fun r hr => ?_)
  have fr := hr.1
  exact wu_RM_fr v.1 v2.1 j fq fr (fun i k h => by unfold wu_mF at h; (try dsimp only); first | omega | exact fun h => h) (fun i h => by unfold wu_mA at h; (try dsimp only); first | omega | exact fun h => h) (fun k => by (try dsimp only); first | omega | exact fun h => h) (fun i h => by (try dsimp only); first | omega | exact fun h => h) (fun i k h => by (try dsimp only); first | omega | exact fun h => h) (fun i h => by (try dsimp only); first | omega | exact fun h => h) (fun k h => by unfold wu_mG at h; (try dsimp only); first | omega | exact fun h => h) (fun i h => by unfold wu_mB at h; (try dsimp only); first | omega | exact fun h => h)
set_option maxHeartbeats 4000000 in
theorem wk2_needs (n : Nat) (hn : 4294967297 < n) {σ : wt_St} (x1 x2 : Int32) (v : wt_IV σ) (j : wu_RM σ) : wt_H (wp_ap_needs n x1 x2 σ) (fun q => wt_H (wp_md_needs n x1 x2 q.2.2) (fun r => wu_RM r.2)) := by
  refine (wq_ap_needs n hn x1 x2 σ).h.imp (fun q hq => ?_)
  have fq := (by rw [hq.1]; exact wt_fr.rf : wt_fr (fun _ _ => False) (fun _ => False) σ q.2.2)
  have v2 : wt_IV q.2.2 := wt_IV_cls v fq (fun k => (by (try dsimp only); first | omega | exact fun h => h | (intros; omega) | decide)) (fun i hi => (by (try dsimp only); first | omega | exact fun h => h | (intros; omega) | decide))
  refine (wq_md_needs n hn x1 x2 q.2.2 v2.1).h.imp (fun r hr => ?_)
  have fr := hr.1
  exact wu_RM_fr v.1 v2.1 j fq fr (fun i k h => by unfold wu_mF at h; (try dsimp only); first | omega | exact fun h => h) (fun i h => by unfold wu_mA at h; (try dsimp only); first | omega | exact fun h => h) (fun k => by (try dsimp only); first | omega | exact fun h => h) (fun i h => by (try dsimp only); first | omega | exact fun h => h) (fun i k h => by (try dsimp only); first | omega | exact fun h => h) (fun i h => by (try dsimp only); first | omega | exact fun h => h) (fun k h => by unfold wu_mG at h; (try dsimp only); first | omega | exact fun h => h) (fun i h => by unfold wu_mB at h; (try dsimp only); first | omega | exact fun h => h)
set_option maxHeartbeats 4000000 in
theorem wk2_can (n : Nat) (hn : 4294967297 < n) {σ : wt_St} (x1 : Int32) (v : wt_IV σ) (j : wu_RM σ) : wt_H (wp_ap_can n x1 σ) (fun q => wt_H (wp_md_can n x1 q.2.2) (fun r => wu_RM r.2)) := by
  refine (wq_ap_can n hn x1 σ).h.imp (fun q hq => ?_)
  have fq := hq.1
  have v2 : wt_IV q.2.2 := wt_IV_cls v fq (fun k => (by (try dsimp only); first | omega | exact fun h => h | (intros; omega) | decide)) (fun i hi => (by (try dsimp only); first | omega | exact fun h => h | (intros; omega) | decide))
  refine (wq_md_can n hn x1 q.2.2 v2.1).h.imp (fun r hr => ?_)
  have fr := hr.1
  exact wu_RM_fr v.1 v2.1 j fq fr (fun i k h => by unfold wu_mF at h; (try dsimp only); first | omega | exact fun h => h) (fun i h => by unfold wu_mA at h; (try dsimp only); first | omega | exact fun h => h) (fun k => by (try dsimp only); first | omega | exact fun h => h) (fun i h => by (try dsimp only); first | omega | exact fun h => h) (fun i k h => by (try dsimp only); first | omega | exact fun h => h) (fun i h => by (try dsimp only); first | omega | exact fun h => h) (fun k h => by unfold wu_mG at h; (try dsimp only); first | omega | exact fun h => h) (fun i h => by unfold wu_mB at h; (try dsimp only); first | omega | exact fun h => h)
set_option maxHeartbeats 4000000 in
theorem wk2_lacks (n : Nat) (hn : 4294967297 < n) {σ : wt_St} (x1 x2 : Int32) (v : wt_IV σ) (j : wu_RM σ) : wt_H (wp_ap_lacks n x1 x2 σ) (fun q => wt_H (wp_md_lacks n x1 x2 q.2.2) (fun r => wu_RM r.2)) := by
  refine (wq_ap_lacks n hn x1 x2 σ).h.imp (fun q hq => ?_)
  have fq := hq.1
  have v2 : wt_IV q.2.2 := wt_IV_cls v fq (fun k => (by (try dsimp only); first | omega | exact fun h => h | (intros; omega) | decide)) (fun i hi => (by (try dsimp only); first | omega | exact fun h => h | (intros; omega) | decide))
  refine (wq_md_lacks n hn x1 x2 q.2.2 v2.1).h.imp (fun r hr => ?_)
  have fr := hr.1
  exact wu_RM_fr v.1 v2.1 j fq fr (fun i k h => by unfold wu_mF at h; (try dsimp only); first | omega | exact fun h => h) (fun i h => by unfold wu_mA at h; (try dsimp only); first | omega | exact fun h => h) (fun k => by (try dsimp only); first | omega | exact fun h => h) (fun i h => by (try dsimp only); first | omega | exact fun h => h) (fun i k h => by (try dsimp only); first | omega | exact fun h => h) (fun i h => by (try dsimp only); first | omega | exact fun h => h) (fun k h => by unfold wu_mG at h; (try dsimp only); first | omega | exact fun h => h) (fun i h => by unfold wu_mB at h; (try dsimp only); first | omega | exact fun h => h)
set_option maxHeartbeats 4000000 in
theorem wk2_page (n : Nat) (hn : 4294967297 < n) {σ : wt_St} (x1 x2 : Int32) (v : wt_IV σ) (j : wu_RM σ) : wt_H (wp_ap_page n x1 x2 σ) (fun q => wt_H (wp_md_page n x1 x2 q.2.2) (fun r => wu_RM r.2)) := by
  refine (wq_ap_page n hn x1 x2 σ).h.imp (fun q hq => ?_)
  have fq := hq.1
  have v2 : wt_IV q.2.2 := wt_IV_cls v fq (fun k => (by (try dsimp only); first | omega | exact fun h => h | (intros; omega) | decide)) (fun i hi => (by (try dsimp only); first | omega | exact fun h => h | (intros; omega) | decide))
  refine (wq_md_page n hn x1 x2 q.2.2 v2.1 v2.2.2.1).h.imp (fun r hr => ?_)
  have fr := hr.1
  exact wu_RM_fr v.1 v2.1 j fq fr (fun i k h => by unfold wu_mF at h; (try dsimp only); first | omega | exact fun h => h) (fun i h => by unfold wu_mA at h; (try dsimp only); first | omega | exact fun h => h) (fun k => by (try dsimp only); first | omega | exact fun h => h) (fun i h => by (try dsimp only); first | omega | exact fun h => h) (fun i k h => by (try dsimp only); first | omega | exact fun h => h) (fun i h => by (try dsimp only); first | omega | exact fun h => h) (fun k h => by unfold wu_mG at h; (try dsimp only); first | omega | exact fun h => h) (fun i h => by unfold wu_mB at h; (try dsimp only); first | omega | exact fun h => h)
set_option maxHeartbeats 4000000 in
theorem wk2_read (n : Nat) (hn : 4294967297 < n) {σ : wt_St} (x1 x2 : Int32) (v : wt_IV σ) (j : wu_RM σ) : wt_H (wp_ap_read n x1 x2 σ) (fun q => wt_H (wp_md_read n x1 x2 q.2.2) (fun r => wu_RM r.2)) := by
  refine (wq_ap_read n hn x1 x2 σ).h.imp (fun q hq => ?_)
  have fq := hq.1
  have v2 : wt_IV q.2.2 := wt_IV_cls v fq (fun k => (by (try dsimp only); first | omega | exact fun h => h | (intros; omega) | decide)) (fun i hi => (by (try dsimp only); first | omega | exact fun h => h | (intros; omega) | decide))
  refine (wq_md_read n hn x1 x2 q.2.2 v2.1 v2.2.2.1).h.imp (fun r hr => ?_)
  have fr := hr.1
  exact wu_RM_fr v.1 v2.1 j fq fr (fun i k h => by unfold wu_mF at h; (try dsimp only); first | omega | exact fun h => h) (fun i h => by unfold wu_mA at h; (try dsimp only); first | omega | exact fun h => h) (fun k => by (try dsimp only); first | omega | exact fun h => h) (fun i h => by (try dsimp only); first | omega | exact fun h => h) (fun i k h => by (try dsimp only); first | omega | exact fun h => h) (fun i h => by (try dsimp only); first | omega | exact fun h => h) (fun k h => by unfold wu_mG at h; (try dsimp only); first | omega | exact fun h => h) (fun i h => by unfold wu_mB at h; (try dsimp only); first | omega | exact fun h => h)
set_option maxHeartbeats 4000000 in
theorem wk2_least (n : Nat) (hn : 4294967297 < n) {σ : wt_St} (x1 x2 x3 : Int32) (v : wt_IV σ) (j : wu_RM σ) : wt_H (wp_ap_least n x1 x2 x3 σ) (fun q => wt_H (wp_md_least n x1 x2 x3 q.2.2) (fun r => wu_RM r.2)) := by
  refine (wq_ap_least n hn x1 x2 x3 σ).h.imp (fun q hq => ?_)
  have fq := hq.1
  have v2 : wt_IV q.2.2 := wt_IV_cls v fq (fun k => (by (try dsimp only); first | omega | exact fun h => h | (intros; omega) | decide)) (fun i hi => (by (try dsimp only); first | omega | exact fun h => h | (intros; omega) | decide))
  refine (wq_md_least n hn x1 x2 x3 q.2.2 v2.1).h.imp (fun r hr => ?_)
  have fr := hr.1
  exact wu_RM_fr v.1 v2.1 j fq fr (fun i k h => by unfold wu_mF at h; (try dsimp only); first | omega | exact fun h => h) (fun i h => by unfold wu_mA at h; (try dsimp only); first | omega | exact fun h => h) (fun k => by (try dsimp only); first | omega | exact fun h => h) (fun i h => by (try dsimp only); first | omega | exact fun h => h) (fun i k h => by (try dsimp only); first | omega | exact fun h => h) (fun i h => by (try dsimp only); first | omega | exact fun h => h) (fun k h => by unfold wu_mG at h; (try dsimp only); first | omega | exact fun h => h) (fun i h => by unfold wu_mB at h; (try dsimp only); first | omega | exact fun h => h)
set_option maxHeartbeats 4000000 in
theorem wk2_fitting (n : Nat) (hn : 4294967297 < n) {σ : wt_St} (x1 x2 x3 x4 : Int32) (v : wt_IV σ) (j : wu_RM σ) : wt_H (wp_ap_fitting n x1 x2 x3 x4 σ) (fun q => wt_H (wp_md_fitting n x1 x2 x3 x4 q.2.2) (fun r => wu_RM r.2)) := by
  refine (wq_ap_fitting n hn x1 x2 x3 x4 σ).h.imp (fun q hq => ?_)
  have fq := hq.1
  have v2 : wt_IV q.2.2 := wt_IV_cls v fq (fun k => (by (try dsimp only); first | omega | exact fun h => h | (intros; omega) | decide)) (fun i hi => (by (try dsimp only); first | omega | exact fun h => h | (intros; omega) | decide))
  refine (wq_md_fitting n hn x1 x2 x3 x4 q.2.2 v2.1).h.imp (fun r hr => ?_)
  have fr := hr.1
  exact wu_RM_fr v.1 v2.1 j fq fr (fun i k h => by unfold wu_mF at h; (try dsimp only); first | omega | exact fun h => h) (fun i h => by unfold wu_mA at h; (try dsimp only); first | omega | exact fun h => h) (fun k => by (try dsimp only); first | omega | exact fun h => h) (fun i h => by (try dsimp only); first | omega | exact fun h => h) (fun i k h => by (try dsimp only); first | omega | exact fun h => h) (fun i h => by (try dsimp only); first | omega | exact fun h => h) (fun k h => by unfold wu_mG at h; (try dsimp only); first | omega | exact fun h => h) (fun i h => by unfold wu_mB at h; (try dsimp only); first | omega | exact fun h => h)
set_option maxHeartbeats 4000000 in
theorem wk2_wordings (n : Nat) (hn : 4294967297 < n) {σ : wt_St} (x1 : Int32) (v : wt_IV σ) (j : wu_RM σ) : wt_H (wp_ap_wordings n x1 σ) (fun q => wt_H (wp_md_wordings n x1 q.2.2) (fun r => wu_RM r.2)) := by
  refine (wq_ap_wordings n hn x1 σ).h.imp (fun q hq => ?_)
  have fq := hq.1
  have v2 : wt_IV q.2.2 := wt_IV_cls v fq (fun k => (by (try dsimp only); first | omega | exact fun h => h | (intros; omega) | decide)) (fun i hi => (by (try dsimp only); first | omega | exact fun h => h | (intros; omega) | decide))
  refine (wq_md_wordings n hn x1 q.2.2 v2.1).h.imp (fun r hr => ?_)
  have fr := hr.1
  exact wu_RM_fr v.1 v2.1 j fq fr (fun i k h => by unfold wu_mF at h; (try dsimp only); first | omega | exact fun h => h) (fun i h => by unfold wu_mA at h; (try dsimp only); first | omega | exact fun h => h) (fun k => by (try dsimp only); first | omega | exact fun h => h) (fun i h => by (try dsimp only); first | omega | exact fun h => h) (fun i k h => by (try dsimp only); first | omega | exact fun h => h) (fun i h => by (try dsimp only); first | omega | exact fun h => h) (fun k h => by unfold wu_mG at h; (try dsimp only); first | omega | exact fun h => h) (fun i h => by unfold wu_mB at h; (try dsimp only); first | omega | exact fun h => h)
set_option maxHeartbeats 4000000 in
theorem wk2_bound (n : Nat) (hn : 4294967297 < n) {σ : wt_St} (v : wt_IV σ) (j : wu_RM σ) : wt_H (wp_ap_bound n σ) (fun q => wt_H (wp_md_bound n q.2) (fun r => wu_RM r.2)) := by
  refine (wq_ap_bound n hn σ).h.imp (fun q hq => ?_)
  have fq := (by rw [hq]; exact wt_fr.rf : wt_fr (fun _ _ => False) (fun _ => False) σ q.2)
  have v2 : wt_IV q.2 := wt_IV_cls v fq (fun k => (by (try dsimp only); first | omega | exact fun h => h | (intros; omega) | decide)) (fun i hi => (by (try dsimp only); first | omega | exact fun h => h | (intros; omega) | decide))
  refine (wq_md_bound n hn q.2 v2.1).h.imp (fun r hr => ?_)
  have fr := hr.1
  exact wu_RM_fr v.1 v2.1 j fq fr (fun i k h => by unfold wu_mF at h; (try dsimp only); first | omega | exact fun h => h) (fun i h => by unfold wu_mA at h; (try dsimp only); first | omega | exact fun h => h) (fun k => by (try dsimp only); first | omega | exact fun h => h) (fun i h => by (try dsimp only); first | omega | exact fun h => h) (fun i k h => by (try dsimp only); first | omega | exact fun h => h) (fun i h => by (try dsimp only); first | omega | exact fun h => h) (fun k h => by unfold wu_mG at h; (try dsimp only); first | omega | exact fun h => h) (fun i h => by unfold wu_mB at h; (try dsimp only); first | omega | exact fun h => h)
set_option maxHeartbeats 4000000 in
theorem wk2_count (n : Nat) (hn : 4294967297 < n) {σ : wt_St} (x1 : Int32) (v : wt_IV σ) (j : wu_RM σ) : wt_H (wp_ap_count n x1 σ) (fun q => wt_H (wp_md_count n x1 q.2) (fun r => wu_RM r.2)) := by
  refine (wq_ap_count n hn x1 σ).h.imp (fun q hq => ?_)
  have fq := (by rw [hq]; exact wt_fr.rf : wt_fr (fun _ _ => False) (fun _ => False) σ q.2)
  have v2 : wt_IV q.2 := wt_IV_cls v fq (fun k => (by (try dsimp only); first | omega | exact fun h => h | (intros; omega) | decide)) (fun i hi => (by (try dsimp only); first | omega | exact fun h => h | (intros; omega) | decide))
  refine (wq_md_count n hn x1 q.2 v2.1).h.imp (fun r hr => ?_)
  have fr := hr.1
  exact wu_RM_fr v.1 v2.1 j fq fr (fun i k h => by unfold wu_mF at h; (try dsimp only); first | omega | exact fun h => h) (fun i h => by unfold wu_mA at h; (try dsimp only); first | omega | exact fun h => h) (fun k => by (try dsimp only); first | omega | exact fun h => h) (fun i h => by (try dsimp only); first | omega | exact fun h => h) (fun i k h => by (try dsimp only); first | omega | exact fun h => h) (fun i h => by (try dsimp only); first | omega | exact fun h => h) (fun k h => by unfold wu_mG at h; (try dsimp only); first | omega | exact fun h => h) (fun i h => by unfold wu_mB at h; (try dsimp only); first | omega | exact fun h => h)
set_option maxHeartbeats 4000000 in
theorem wk2_most (n : Nat) (hn : 4294967297 < n) {σ : wt_St} (x1 : Int32) (v : wt_IV σ) (j : wu_RM σ) : wt_H (wp_ap_most n x1 σ) (fun q => wt_H (wp_md_most n x1 q.2.2) (fun r => wu_RM r.2)) := by
  refine (wq_ap_most n hn x1 σ).h.imp (fun q hq => ?_)
  have fq := hq.1
  have v2 : wt_IV q.2.2 := wt_IV_cls v fq (fun k => (by (try dsimp only); first | omega | exact fun h => h | (intros; omega) | decide)) (fun i hi => (by (try dsimp only); first | omega | exact fun h => h | (intros; omega) | decide))
  refine (wt_H_and (wh_mostR n hn v2.1) (wq_md_most n hn x1 q.2.2 v2.1).h).imp (fun r hr0 => ?_)
  have hr := hr0.2
  have fr := hr.1
  have kv : wu_KV q.2.2 r.2 := wu_KV_KE v2.2.1 (fr.2 111 (by (try dsimp only); first | omega | exact fun h => h)) hr0.1
  exact wu_RM_kv v.1 v2.1 j fq fr kv (fun i k h => by unfold wu_mF at h; (try dsimp only); first | omega | exact fun h => h) (fun i h => by unfold wu_mA at h; (try dsimp only); first | omega | exact fun h => h) (fun k => by (try dsimp only); first | omega | exact fun h => h) (fun i h => by (try dsimp only); first | omega | exact fun h => h) (fun i k h => by (try dsimp only); first | omega | exact fun h => h) (fun i h => by (try dsimp only); first | omega | exact fun h => h) (fun k h => by unfold wu_mG at h; (try dsimp only); first | omega | exact fun h => h) (fun i h h9 => by unfold wu_mB at h; (try dsimp only); first | omega | exact fun h => h)
set_option maxHeartbeats 4000000 in
theorem wk2_greedy (n : Nat) (hn : 4294967297 < n) {σ : wt_St} (x1 : Int32) (v : wt_IV σ) (j : wu_RM σ) : wt_H (wp_ap_greedy n x1 σ) (fun q => wt_H (wp_md_greedy n x1 q.2.2) (fun r => wu_RM r.2)) := by
  refine (wq_ap_greedy n hn x1 σ).h.imp (fun q hq => ?_)
  have fq := hq.1
  have v2 : wt_IV q.2.2 := wt_IV_cls v fq (fun k => (by (try dsimp only); first | omega | exact fun h => h | (intros; omega) | decide)) (fun i hi => (by (try dsimp only); first | omega | exact fun h => h | (intros; omega) | decide))
  refine (wt_H_and (wh_greedyR n hn v2.1) (wq_md_greedy n hn x1 q.2.2 v2.1).h).imp (fun r hr0 => ?_)
  have hr := hr0.2
  have fr := hr.1
  have kv : wu_KV q.2.2 r.2 := wu_KV_KE v2.2.1 (fr.2 111 (by (try dsimp only); first | omega | exact fun h => h)) hr0.1
  exact wu_RM_kv v.1 v2.1 j fq fr kv (fun i k h => by unfold wu_mF at h; (try dsimp only); first | omega | exact fun h => h) (fun i h => by unfold wu_mA at h; (try dsimp only); first | omega | exact fun h => h) (fun k => by (try dsimp only); first | omega | exact fun h => h) (fun i h => by (try dsimp only); first | omega | exact fun h => h) (fun i k h => by (try dsimp only); first | omega | exact fun h => h) (fun i h => by (try dsimp only); first | omega | exact fun h => h) (fun k h => by unfold wu_mG at h; (try dsimp only); first | omega | exact fun h => h) (fun i h h9 => by unfold wu_mB at h; (try dsimp only); first | omega | exact fun h => h)
set_option maxHeartbeats 4000000 in
theorem wk2_said (n : Nat) (hn : 4294967297 < n) {σ : wt_St} (x1 x2 : Int32) (v : wt_IV σ) (j : wu_RM σ) : wt_H (wp_ap_said n x1 x2 σ) (fun q => wt_H (wp_md_said n x1 x2 q.2.2) (fun r => wu_RM r.2)) := by
  refine (wq_ap_said n hn x1 x2 σ).h.imp (fun q hq => ?_)
  have fq := hq.1
  have v2 : wt_IV q.2.2 := wt_IV_cls v fq (fun k => (by (try dsimp only); first | omega | exact fun h => h | (intros; omega) | decide)) (fun i hi => (by (try dsimp only); first | omega | exact fun h => h | (intros; omega) | decide))
  refine (wt_H_and (wh_saidR n hn v2.1) (wq_md_said n hn x1 x2 q.2.2 v2.1).h).imp (fun r hr0 => ?_)
  have hr := hr0.2
  have fr := hr.1
  have kv : wu_KV q.2.2 r.2 := wu_KV_KE v2.2.1 (fr.2 111 (by (try dsimp only); first | omega | exact fun h => h)) hr0.1
  exact wu_RM_kv v.1 v2.1 j fq fr kv (fun i k h => by unfold wu_mF at h; (try dsimp only); first | omega | exact fun h => h) (fun i h => by unfold wu_mA at h; (try dsimp only); first | omega | exact fun h => h) (fun k => by (try dsimp only); first | omega | exact fun h => h) (fun i h => by (try dsimp only); first | omega | exact fun h => h) (fun i k h => by (try dsimp only); first | omega | exact fun h => h) (fun i h => by (try dsimp only); first | omega | exact fun h => h) (fun k h => by unfold wu_mG at h; (try dsimp only); first | omega | exact fun h => h) (fun i h h9 => by unfold wu_mB at h; (try dsimp only); first | omega | exact fun h => h)
set_option maxHeartbeats 4000000 in
theorem wk2_lost (n : Nat) (hn : 4294967297 < n) {σ : wt_St} (x1 : Int32) (v : wt_IV σ) (j : wu_RM σ) : wt_H (wp_ap_lost n x1 σ) (fun q => wt_H (wp_md_lost n x1 q.2.2) (fun r => wu_RM r.2)) := by
  refine (wq_ap_lost n hn x1 σ).h.imp (fun q hq => ?_)
  have fq := hq.1
  have v2 : wt_IV q.2.2 := wt_IV_cls v fq (fun k => (by (try dsimp only); first | omega | exact fun h => h | (intros; omega) | decide)) (fun i hi => (by (try dsimp only); first | omega | exact fun h => h | (intros; omega) | decide))
  refine (wt_H_and (wh_lostR n hn v2.1) (wq_md_lost n hn x1 q.2.2 v2.1).h).imp (fun r hr0 => ?_)
  have hr := hr0.2
  have fr := hr.1
  have kv : wu_KV q.2.2 r.2 := wu_KV_KE v2.2.1 (fr.2 111 (by (try dsimp only); first | omega | exact fun h => h)) hr0.1
  exact wu_RM_kv v.1 v2.1 j fq fr kv (fun i k h => by unfold wu_mF at h; (try dsimp only); first | omega | exact fun h => h) (fun i h => by unfold wu_mA at h; (try dsimp only); first | omega | exact fun h => h) (fun k => by (try dsimp only); first | omega | exact fun h => h) (fun i h => by (try dsimp only); first | omega | exact fun h => h) (fun i k h => by (try dsimp only); first | omega | exact fun h => h) (fun i h => by (try dsimp only); first | omega | exact fun h => h) (fun k h => by unfold wu_mG at h; (try dsimp only); first | omega | exact fun h => h) (fun i h h9 => by unfold wu_mB at h; (try dsimp only); first | omega | exact fun h => h)
set_option maxHeartbeats 4000000 in
theorem wk2_ends (n : Nat) (hn : 4294967297 < n) {σ : wt_St} (x1 : Int32) (v : wt_IV σ) (j : wu_RM σ) : wt_H (wp_ap_ends n x1 σ) (fun q => wt_H (wp_md_ends n x1 q.2.2) (fun r => wu_RM r.2)) := by
  refine (wq_ap_ends n hn x1 σ).h.imp (fun q hq => ?_)
  have fq := hq.1
  have v2 : wt_IV q.2.2 := wt_IV_cls v fq (fun k => (by (try dsimp only); first | omega | exact fun h => h | (intros; omega) | decide)) (fun i hi => (by (try dsimp only); first | omega | exact fun h => h | (intros; omega) | decide))
  refine (wt_H_and (wh_endsR n hn v2.1) (wq_md_ends n hn x1 q.2.2 v2.1).h).imp (fun r hr0 => ?_)
  have hr := hr0.2
  have fr := hr.1
  have kv : wu_KV q.2.2 r.2 := wu_KV_KE v2.2.1 (fr.2 111 (by (try dsimp only); first | omega | exact fun h => h)) hr0.1
  exact wu_RM_kv v.1 v2.1 j fq fr kv (fun i k h => by unfold wu_mF at h; (try dsimp only); first | omega | exact fun h => h) (fun i h => by unfold wu_mA at h; (try dsimp only); first | omega | exact fun h => h) (fun k => by (try dsimp only); first | omega | exact fun h => h) (fun i h => by (try dsimp only); first | omega | exact fun h => h) (fun i k h => by (try dsimp only); first | omega | exact fun h => h) (fun i h => by (try dsimp only); first | omega | exact fun h => h) (fun k h => by unfold wu_mG at h; (try dsimp only); first | omega | exact fun h => h) (fun i h h9 => by unfold wu_mB at h; (try dsimp only); first | omega | exact fun h => h)
set_option maxHeartbeats 4000000 in
theorem wk2_exchange (n : Nat) (hn : 4294967297 < n) {σ : wt_St} (x1 : Int32) (v : wt_IV σ) (j : wu_RM σ) : wt_H (wp_ap_exchange n x1 σ) (fun q => wt_H (wp_md_exchange n x1 q.2.2) (fun r => wu_RM r.2)) := by
  refine (wq_ap_exchange n hn x1 σ).h.imp (fun q hq => ?_)
  have fq := hq.1
  have v2 : wt_IV q.2.2 := wt_IV_cls v fq (fun k => (by (try dsimp only); first | omega | exact fun h => h | (intros; omega) | decide)) (fun i hi => (by (try dsimp only); first | omega | exact fun h => h | (intros; omega) | decide))
  refine (wt_H_and (wh_exchangeR n hn v2.1 v2.2.1) (wq_md_exchange n hn x1 q.2.2 v2.1 v2.2.1).h).imp (fun r hr0 => ?_)
  have hr := hr0.2
  have fr := hr.1
  have kv : wu_KV q.2.2 r.2 := hr0.1
  exact wu_RM_kv v.1 v2.1 j fq fr kv (fun i k h => by unfold wu_mF at h; (try dsimp only); first | omega | exact fun h => h) (fun i h => by unfold wu_mA at h; (try dsimp only); first | omega | exact fun h => h) (fun k => by (try dsimp only); first | omega | exact fun h => h) (fun i h => by (try dsimp only); first | omega | exact fun h => h) (fun i k h => by (try dsimp only); first | omega | exact fun h => h) (fun i h => by (try dsimp only); first | omega | exact fun h => h) (fun k h => by unfold wu_mG at h; (try dsimp only); first | omega | exact fun h => h) (fun i h h9 => by unfold wu_mB at h; (try dsimp only); first | omega | exact fun h => h)
set_option maxHeartbeats 4000000 in
theorem wk2_cast (n : Nat) (hn : 4294967297 < n) {σ : wt_St} (x1 x2 : Int32) (v : wt_IV σ) (j : wu_RM σ) : wt_H (wp_ap_cast n x1 x2 σ) (fun q => wt_H (wp_md_cast n x1 x2 q.2.2) (fun r => wu_RM r.2)) := by
  refine (wq_ap_cast n hn x1 x2 σ).h.imp (fun q hq => ?_)
  have fq := hq.1
  have v2 : wt_IV q.2.2 := wt_IV_cls v fq (fun k => (by (try dsimp only); first | omega | exact fun h => h | (intros; omega) | decide)) (fun i hi => (by (try dsimp only); first | omega | exact fun h => h | (intros; omega) | decide))
  refine (wt_H_and (wh_castR n hn v2.1 v2.2.1) (wq_md_cast n hn x1 x2 q.2.2 v2.1 v2.2.1).h).imp (fun r hr0 => ?_)
  have hr := hr0.2
  have fr := hr.1
  have kv : wu_KV q.2.2 r.2 := hr0.1
  exact wu_RM_kv v.1 v2.1 j fq fr kv (fun i k h => by unfold wu_mF at h; (try dsimp only); first | omega | exact fun h => h) (fun i h => by unfold wu_mA at h; (try dsimp only); first | omega | exact fun h => h) (fun k => by (try dsimp only); first | omega | exact fun h => h) (fun i h => by (try dsimp only); first | omega | exact fun h => h) (fun i k h => by (try dsimp only); first | omega | exact fun h => h) (fun i h => by (try dsimp only); first | omega | exact fun h => h) (fun k h => by unfold wu_mG at h; (try dsimp only); first | omega | exact fun h => h) (fun i h h9 => by unfold wu_mB at h; (try dsimp only); first | omega | exact fun h => h)
set_option maxHeartbeats 4000000 in
theorem wk2_together (n : Nat) (hn : 4294967297 < n) {σ : wt_St} (x1 : Int32) (v : wt_IV σ) (j : wu_RM σ) : wt_H (wp_ap_together n x1 σ) (fun q => wt_H (wp_md_together n x1 q.2.2) (fun r => wu_RM r.2)) := by
  refine (wq_ap_together n hn x1 σ).h.imp (fun q hq => ?_)
  have fq := hq.1
  have v2 : wt_IV q.2.2 := wt_IV_cls v fq (fun k => (by (try dsimp only); first | omega | exact fun h => h | (intros; omega) | decide)) (fun i hi => (by (try dsimp only); first | omega | exact fun h => h | (intros; omega) | decide))
  refine (wt_H_and (wh_togetherR n hn v2.1) (wq_md_together n hn x1 q.2.2 v2.1).h).imp (fun r hr0 => ?_)
  have hr := hr0.2
  have fr := hr.1
  have kv : wu_KV q.2.2 r.2 := wu_KV_K0 v2.2.1 (wu_SC_fr j.2.1 fq fq (fun k hk => by (try dsimp only); first | omega | exact fun h => h) (fun k hk => by (try dsimp only); first | omega | exact fun h => h) (fun i p q => by (try dsimp only); first | omega | exact fun h => h) (fun i hi => by (try dsimp only); first | omega | exact fun h => h)) hr0.1
  exact wu_RM_kv v.1 v2.1 j fq fr kv (fun i k h => by unfold wu_mF at h; (try dsimp only); first | omega | exact fun h => h) (fun i h => by unfold wu_mA at h; (try dsimp only); first | omega | exact fun h => h) (fun k => by (try dsimp only); first | omega | exact fun h => h) (fun i h => by (try dsimp only); first | omega | exact fun h => h) (fun i k h => by (try dsimp only); first | omega | exact fun h => h) (fun i h => by (try dsimp only); first | omega | exact fun h => h) (fun k h => by unfold wu_mG at h; (try dsimp only); first | omega | exact fun h => h) (fun i h h9 => by unfold wu_mB at h; (try dsimp only); first | omega | exact fun h => h)
end WTQ0
-- 96k.rmsp.lean.txt
section WTQ1
set_option maxHeartbeats 4000000 in
theorem wa2_habit (n : Nat) (hn : 4294967297 < n) {σ : wt_St} (x1 : Int32) (v : wt_IV σ) (j : wu_RM σ) : wt_H (wp_ap_habit n x1 σ) (fun q => wt_H (wp_md_habit n x1 q.2.2) (fun r => ((q.1 = 1 ∧ wt_gf r.2 108 0 = 1) ∨ (q.1 = 0 ∧ wt_gf r.2 108 0 = 0 ∧ q.2.1 = r.1)) ∧ wu_RM r.2)) := by
  intro q hq r hr
  obtain ⟨q', hq', hfq⟩ := wq_ap_habit n hn x1 σ
  rw [hq] at hq'
  cases hq'
  have fq := hfq.1
  have v2 : wt_IV q.2.2 := wt_IV_cls v fq (fun k => (by (try dsimp only); first | omega | exact fun h => h | (intros; omega) | decide)) (fun i hi => (by (try dsimp only); first | omega | exact fun h => h | (intros; omega) | decide))
  obtain ⟨r', hr', hfr⟩ := wq_md_habit n hn x1 q.2.2 v2.1
  rw [hr] at hr'
  cases hr'
  have fr := hfr.1
  have rr : wt_RI r.2 := hfr.2
  obtain ⟨lcm, scm, sim⟩ := wu_midM j v.1 fq (fun k => by (try dsimp only); first | omega | exact fun h => h) (fun i h => by (try dsimp only); first | omega | exact fun h => h)
  obtain ⟨an, sc⟩ := wr_habit n scm q r hq hr
  obtain ⟨lc, si⟩ := wu_LI_fr v.1 v2.1 j fq fr (fun i k h => by unfold wu_iF at h; (try dsimp only); first | omega | exact fun h => h) (fun i h => by unfold wu_iA at h; (try dsimp only); first | omega | exact fun h => h) (fun k => by (try dsimp only); first | omega | exact fun h => h) (fun i h => by (try dsimp only); first | omega | exact fun h => h) (fun i k h => by (try dsimp only); first | omega | exact fun h => h) (fun i h => by (try dsimp only); first | omega | exact fun h => h) (fun k h => by unfold wu_iG at h; (try dsimp only); first | omega | exact fun h => h) (fun i h => by unfold wu_iB at h; (try dsimp only); first | omega | exact fun h => h)
  exact ⟨an, lc, wu_endSC sc fr (fun i k h => by (try dsimp only); first | omega | exact fun h => h) (fun i h => by (try dsimp only); first | omega | exact fun h => h), si⟩
set_option maxHeartbeats 4000000 in
theorem wa2_want (n : Nat) (hn : 4294967297 < n) {σ : wt_St} (x1 x2 x3 x4 : Int32) (v : wt_IV σ) (tx : wu_TX σ σ) (j : wu_RM σ) : wt_H (wp_ap_want n x1 x2 x3 x4 σ) (fun q => wt_H (wp_md_want n x1 x2 x3 x4 q.2.2) (fun r => ((q.1 = 2 ∧ wt_gf r.2 108 0 = 1) ∨ (q.1 = 1 ∧ wt_gf r.2 108 0 = 2) ∨ (q.1 = 0 ∧ wt_gf r.2 108 0 = 0 ∧ q.2.1 = r.1)) ∧ wu_RM r.2)) := by
  intro q hq r hr
  obtain ⟨q', hq', hfq⟩ := wq_ap_want n hn x1 x2 x3 x4 σ
  rw [hq] at hq'
  cases hq'
  have fq := hfq.1
  have v2 : wt_IV q.2.2 := wt_IV_cls v fq (fun k => (by (try dsimp only); first | omega | exact fun h => h | (intros; omega) | decide)) (fun i hi => (by (try dsimp only); first | omega | exact fun h => h | (intros; omega) | decide))
  obtain ⟨r', hr', hfr⟩ := wq_md_want n hn x1 x2 x3 x4 q.2.2 v2.1
  rw [hr] at hr'
  cases hr'
  have fr := hfr.1
  have rr : wt_RI r.2 := hfr.2
  obtain ⟨lcm, scm, sim⟩ := wu_midM j v.1 fq (fun k => by (try dsimp only); first | omega | exact fun h => h) (fun i h => by (try dsimp only); first | omega | exact fun h => h)
  obtain ⟨an, sc⟩ := wr_want n v2.1 (tx.1.trans (fq.1 108 39 (by (try dsimp only); first | omega | exact fun h => h)).symm) scm q r hq hr
  obtain ⟨lc, si⟩ := wu_LI_fr v.1 v2.1 j fq fr (fun i k h => by unfold wu_iF at h; (try dsimp only); first | omega | exact fun h => h) (fun i h => by unfold wu_iA at h; (try dsimp only); first | omega | exact fun h => h) (fun k => by (try dsimp only); first | omega | exact fun h => h) (fun i h => by (try dsimp only); first | omega | exact fun h => h) (fun i k h => by (try dsimp only); first | omega | exact fun h => h) (fun i h => by (try dsimp only); first | omega | exact fun h => h) (fun k h => by unfold wu_iG at h; (try dsimp only); first | omega | exact fun h => h) (fun i h => by unfold wu_iB at h; (try dsimp only); first | omega | exact fun h => h)
  exact ⟨an, lc, wu_endSC sc fr (fun i k h => by (try dsimp only); first | omega | exact fun h => h) (fun i h => by (try dsimp only); first | omega | exact fun h => h), si⟩
set_option maxHeartbeats 4000000 in
theorem wa2_set (n : Nat) (hn : 4294967297 < n) {σ : wt_St} (x1 x2 : Int32) (v : wt_IV σ) (to : wt_TO σ σ) (tx : wu_TX σ σ) (j : wu_RM σ) : wt_H (wp_ap_set n x1 x2 σ) (fun q => wt_H (wp_md_set n x1 x2 q.2.2) (fun r => ((q.1 = 2 ∧ wt_gf r.2 108 0 = 1) ∨ (q.1 = 1 ∧ wt_gf r.2 108 0 = 2) ∨ (q.1 = 0 ∧ wt_gf r.2 108 0 = 0 ∧ q.2.1 = r.1)) ∧ wu_RM r.2)) := by
  intro q hq r hr
  obtain ⟨q', hq', hfq⟩ := wq_ap_set n hn x1 x2 σ
  rw [hq] at hq'
  cases hq'
  have fq := hfq.1
  have v2 : wt_IV q.2.2 := wt_IV_cls v fq (fun k => (by (try dsimp only); first | omega | exact fun h => h | (intros; omega) | decide)) (fun i hi => (by (try dsimp only); first | omega | exact fun h => h | (intros; omega) | decide))
  obtain ⟨r', hr', hfr⟩ := wq_md_set n hn x1 x2 q.2.2 v2.1
  rw [hr] at hr'
  cases hr'
  have fr := hfr.1
  have rr : wt_RI r.2 := hfr.2
  obtain ⟨lcm, scm, sim⟩ := wu_midM j v.1 fq (fun k => by (try dsimp only); first | omega | exact fun h => h) (fun i h => by (try dsimp only); first | omega | exact fun h => h)
  obtain ⟨-, txm⟩ := wu_mid to tx v.1 fq (fun k => by (try dsimp only); first | omega | exact fun h => h) (fun i h => by (try dsimp only); first | omega | exact fun h => h)
  obtain ⟨an, sc⟩ := wr_set n hn v2 txm lcm scm q r hq hr
  obtain ⟨lc, si⟩ := wu_LI_fr v.1 v2.1 j fq fr (fun i k h => by unfold wu_iF at h; (try dsimp only); first | omega | exact fun h => h) (fun i h => by unfold wu_iA at h; (try dsimp only); first | omega | exact fun h => h) (fun k => by (try dsimp only); first | omega | exact fun h => h) (fun i h => by (try dsimp only); first | omega | exact fun h => h) (fun i k h => by (try dsimp only); first | omega | exact fun h => h) (fun i h => by (try dsimp only); first | omega | exact fun h => h) (fun k h => by unfold wu_iG at h; (try dsimp only); first | omega | exact fun h => h) (fun i h => by unfold wu_iB at h; (try dsimp only); first | omega | exact fun h => h)
  exact ⟨an, lc, wu_endSC sc fr (fun i k h => by (try dsimp only); first | omega | exact fun h => h) (fun i h => by (try dsimp only); first | omega | exact fun h => h), si⟩
set_option maxHeartbeats 4000000 in
theorem wa2_print (n : Nat) (hn : 4294967297 < n) {σ : wt_St} (x1 x2 : Int32) (v : wt_IV σ) (j : wu_RM σ) : wt_H (wp_ap_print n x1 x2 σ) (fun q => wt_H (wp_md_print n x1 x2 q.2.2) (fun r => ((q.1 = 2 ∧ wt_gf r.2 108 0 = 1) ∨ (q.1 = 1 ∧ wt_gf r.2 108 0 = 2) ∨ (q.1 = 0 ∧ wt_gf r.2 108 0 = 0 ∧ q.2.1 = r.1)) ∧ wu_RM r.2)) := by
  intro q hq r hr
  obtain ⟨q', hq', hfq⟩ := wq_ap_print n hn x1 x2 σ
  rw [hq] at hq'
  cases hq'
  have fq := hfq.1
  have v2 : wt_IV q.2.2 := wt_IV_cls v fq (fun k => (by (try dsimp only); first | omega | exact fun h => h | (intros; omega) | decide)) (fun i hi => (by (try dsimp only); first | omega | exact fun h => h | (intros; omega) | decide))
  obtain ⟨r', hr', hfr⟩ := wq_md_print n hn x1 x2 q.2.2 v2.1 v2.2.2.2.1
  rw [hr] at hr'
  cases hr'
  have fr := hfr.1
  have rr : wt_RI r.2 := hfr.2
  obtain ⟨lcm, scm, sim⟩ := wu_midM j v.1 fq (fun k => by (try dsimp only); first | omega | exact fun h => h) (fun i h => by (try dsimp only); first | omega | exact fun h => h)
  obtain ⟨an, sc⟩ := wr_print n hn v2 scm q r hq hr
  obtain ⟨lc, si⟩ := wu_LI_fr v.1 v2.1 j fq fr (fun i k h => by unfold wu_iF at h; (try dsimp only); first | omega | exact fun h => h) (fun i h => by unfold wu_iA at h; (try dsimp only); first | omega | exact fun h => h) (fun k => by (try dsimp only); first | omega | exact fun h => h) (fun i h => by (try dsimp only); first | omega | exact fun h => h) (fun i k h => by (try dsimp only); first | omega | exact fun h => h) (fun i h => by (try dsimp only); first | omega | exact fun h => h) (fun k h => by unfold wu_iG at h; (try dsimp only); first | omega | exact fun h => h) (fun i h => by unfold wu_iB at h; (try dsimp only); first | omega | exact fun h => h)
  exact ⟨an, lc, wu_endSC sc fr (fun i k h => by (try dsimp only); first | omega | exact fun h => h) (fun i h => by (try dsimp only); first | omega | exact fun h => h), si⟩
set_option maxHeartbeats 4000000 in
theorem wa2_apart (n : Nat) (hn : 4294967297 < n) {σ : wt_St} (x1 : Int32) (v : wt_IV σ) (j : wu_RM σ) : wt_H (wp_ap_apart n x1 σ) (fun q => wt_H (wp_md_apart n x1 q.2.2) (fun r => ((q.1 = 2 ∧ wt_gf r.2 108 0 = 1) ∨ (q.1 = 0 ∧ wt_gf r.2 108 0 = 0 ∧ q.2.1 = r.1)) ∧ wu_RM r.2)) := by
  intro q hq r hr
  obtain ⟨q', hq', hfq⟩ := wq_ap_apart n hn x1 σ
  rw [hq] at hq'
  cases hq'
  have fq := hfq.1
  have v2 : wt_IV q.2.2 := wt_IV_cls v fq (fun k => (by (try dsimp only); first | omega | exact fun h => h | (intros; omega) | decide)) (fun i hi => (by (try dsimp only); first | omega | exact fun h => h | (intros; omega) | decide))
  obtain ⟨r', hr', hfr⟩ := wq_md_apart n hn x1 q.2.2 v2.1
  rw [hr] at hr'
  cases hr'
  have fr := hfr.1
  have rr : wt_RI r.2 := hfr.2
  obtain ⟨lcm, scm, sim⟩ := wu_midM j v.1 fq (fun k => by (try dsimp only); first | omega | exact fun h => h) (fun i h => by (try dsimp only); first | omega | exact fun h => h)
  obtain ⟨an, sc⟩ := wr_apart n hn v2 scm q r hq hr
  obtain ⟨lc, si⟩ := wu_LI_fr v.1 v2.1 j fq fr (fun i k h => by unfold wu_iF at h; (try dsimp only); first | omega | exact fun h => h) (fun i h => by unfold wu_iA at h; (try dsimp only); first | omega | exact fun h => h) (fun k => by (try dsimp only); first | omega | exact fun h => h) (fun i h => by (try dsimp only); first | omega | exact fun h => h) (fun i k h => by (try dsimp only); first | omega | exact fun h => h) (fun i h => by (try dsimp only); first | omega | exact fun h => h) (fun k h => by unfold wu_iG at h; (try dsimp only); first | omega | exact fun h => h) (fun i h => by unfold wu_iB at h; (try dsimp only); first | omega | exact fun h => h)
  exact ⟨an, lc, wu_endSC sc fr (fun i k h => by (try dsimp only); first | omega | exact fun h => h) (fun i h => by (try dsimp only); first | omega | exact fun h => h), si⟩
set_option maxHeartbeats 4000000 in
theorem wa2_forget (n : Nat) (hn : 4294967297 < n) {σ : wt_St} (v : wt_IV σ) (j : wu_RM σ) : wt_H (wp_ap_forget n σ) (fun q => wt_H (wp_md_forget n q.2) (fun r => q.1 = r.1 ∧ wu_RM r.2)) := by
  intro q hq r hr
  obtain ⟨q', hq', hfq⟩ := wq_ap_forget n hn σ
  rw [hq] at hq'
  cases hq'
  have fq := hfq
  have v2 : wt_IV q.2 := wt_IV_cls v fq (fun k => (by (try dsimp only); first | omega | exact fun h => h | (intros; omega) | decide)) (fun i hi => (by (try dsimp only); first | omega | exact fun h => h | (intros; omega) | decide))
  obtain ⟨r', hr', hfr⟩ := wq_md_forget n hn q.2 v2.1
  rw [hr] at hr'
  cases hr'
  have fr := hfr.1
  have rr : wt_RI r.2 := hfr.2
  obtain ⟨lcm, scm, sim⟩ := wu_midM j v.1 fq (fun k => by (try dsimp only); first | omega | exact fun h => h) (fun i h => by (try dsimp only); first | omega | exact fun h => h)
  obtain ⟨an, sc⟩ := wr_forget n scm q r hq hr
  obtain ⟨lc, si⟩ := wu_LI_fr v.1 v2.1 j fq fr (fun i k h => by unfold wu_iF at h; (try dsimp only); first | omega | exact fun h => h) (fun i h => by unfold wu_iA at h; (try dsimp only); first | omega | exact fun h => h) (fun k => by (try dsimp only); first | omega | exact fun h => h) (fun i h => by (try dsimp only); first | omega | exact fun h => h) (fun i k h => by (try dsimp only); first | omega | exact fun h => h) (fun i h => by (try dsimp only); first | omega | exact fun h => h) (fun k h => by unfold wu_iG at h; (try dsimp only); first | omega | exact fun h => h) (fun i h => by unfold wu_iB at h; (try dsimp only); first | omega | exact fun h => h)
  exact ⟨an, lc, wu_endSC sc fr (fun i k h => by (try dsimp only); first | omega | exact fun h => h) (fun i h => by (try dsimp only); first | omega | exact fun h => h), si⟩
set_option maxHeartbeats 4000000 in
theorem wk2_kase (n : Nat) (hn : 4294967297 < n) {σ : wt_St} (x1 : Int32) (v : wt_IV σ) (ti : (wt_gf σ 1 2).toInt = (wt_gf σ 108 1).toInt) (jt : wt_JT σ) (j : wu_RM σ) : wt_H (wp_ap_kase n x1 σ) (fun q => wt_H (wp_md_kase n x1 q.2.2) (fun r => wu_RM r.2)) := by
  intro q hq r hr
  obtain ⟨q', hq', hfq⟩ := wq_ap_kase n hn x1 σ
  rw [hq] at hq'
  cases hq'
  have fq := hfq.1
  have v2 : wt_IV q.2.2 := wt_IV_cls v fq (fun k => (by (try dsimp only); first | omega | exact fun h => h | (intros; omega) | decide)) (fun i hi => (by (try dsimp only); first | omega | exact fun h => h | (intros; omega) | decide))
  obtain ⟨r', hr', hfr⟩ := wq_md_kase n hn x1 q.2.2 v2.1 v2.2.1
  rw [hr] at hr'
  cases hr'
  have fr := hfr.1
  have rr : wt_RI r.2 := hfr.2.1
  obtain ⟨lcm, scm, sim⟩ := wu_midM j v.1 fq (fun k => by (try dsimp only); first | omega | exact fun h => h) (fun i h => by (try dsimp only); first | omega | exact fun h => h)
  have tb : wt_TB σ q.2.2 := ⟨fun i hi => by rw [fq.2 109 (by (try dsimp only); omega)]; exact jt i hi, wt_eqI (by rw [fq.1 108 1 (by (try dsimp only); omega)]; exact ti)⟩
  obtain ⟨-, a, b, c⟩ := wr_kaseR n hn v2 tb lcm scm sim q r hq hr
  exact ⟨wu_endLC a fr (fun i k h => by (try dsimp only); first | omega | exact fun h => h) (fun i h => by (try dsimp only); first | omega | exact fun h => h), wu_endSC b fr (fun i k h => by (try dsimp only); first | omega | exact fun h => h) (fun i h => by (try dsimp only); first | omega | exact fun h => h), wu_endSI c rr fr (fun i k h => by (try dsimp only); first | omega | exact fun h => h) (fun i h => by (try dsimp only); first | omega | exact fun h => h)⟩
set_option maxHeartbeats 4000000 in
theorem wk2_tongue (n : Nat) (hn : 4294967297 < n) {σ : wt_St} (x1 : Int32) (v : wt_IV σ) (ti : (wt_gf σ 1 2).toInt = (wt_gf σ 108 1).toInt) (jt : wt_JT σ) (j : wu_RM σ) : wt_H (wp_ap_tongue n x1 σ) (fun q => wt_H (wp_md_tongue n x1 q.2.2) (fun r => wu_RM r.2)) := by
  intro q hq r hr
  obtain ⟨q', hq', hfq⟩ := wq_ap_tongue n hn x1 σ
  rw [hq] at hq'
  cases hq'
  have fq := hfq.1
  have v2 : wt_IV q.2.2 := wt_IV_cls v fq (fun k => (by (try dsimp only); first | omega | exact fun h => h | (intros; omega) | decide)) (fun i hi => (by (try dsimp only); first | omega | exact fun h => h | (intros; omega) | decide))
  obtain ⟨r', hr', hfr⟩ := wq_md_tongue n hn x1 q.2.2 v2.1
  rw [hr] at hr'
  cases hr'
  have fr := hfr.1
  have rr : wt_RI r.2 := hfr.2.1
  obtain ⟨lcm, scm, sim⟩ := wu_midM j v.1 fq (fun k => by (try dsimp only); first | omega | exact fun h => h) (fun i h => by (try dsimp only); first | omega | exact fun h => h)
  have tb : wt_TB σ q.2.2 := ⟨fun i hi => by rw [fq.2 109 (by (try dsimp only); omega)]; exact jt i hi, wt_eqI (by rw [fq.1 108 1 (by (try dsimp only); omega)]; exact ti)⟩
  obtain ⟨a, b, c⟩ := wr_tongueR n hn v2 tb lcm scm sim q r hq hr
  exact ⟨wu_endLC a fr (fun i k h => by (try dsimp only); first | omega | exact fun h => h) (fun i h => by (try dsimp only); first | omega | exact fun h => h), wu_endSC b fr (fun i k h => by (try dsimp only); first | omega | exact fun h => h) (fun i h => by (try dsimp only); first | omega | exact fun h => h), wu_endSI c rr fr (fun i k h => by (try dsimp only); first | omega | exact fun h => h) (fun i h => by (try dsimp only); first | omega | exact fun h => h)⟩
set_option maxHeartbeats 4000000 in
theorem wk2_image (n : Nat) (hn : 4294967297 < n) {σ : wt_St} (v : wt_IV σ) (j : wu_RM σ) : wt_H (wp_ap_image n σ) (fun q => wt_H (wp_md_image n q.2) (fun r => wu_RM r.2)) := by
  intro q hq r hr
  obtain ⟨q', hq', hfq⟩ := wq_ap_image n hn σ
  rw [hq] at hq'
  cases hq'
  have fq := hfq
  have v2 : wt_IV q.2 := wt_IV_cls v fq (fun k => (by (try dsimp only); first | omega | exact fun h => h | (intros; omega) | decide)) (fun i hi => (by (try dsimp only); first | omega | exact fun h => h | (intros; omega) | decide))
  have fr := wf_md_image n hn v2 r hr
  have rr : wt_RI r.2 := (((wq_md_image n hn q.2 v2).h) r hr).1.1
  obtain ⟨lcm, scm, sim⟩ := wu_midM j v.1 fq (fun k => by (try dsimp only); first | omega | exact fun h => h) (fun i h => by (try dsimp only); first | omega | exact fun h => h)
  obtain ⟨-, sc, si⟩ := wr_image n hn v2 scm sim q r hq hr
  have lcq : wu_LC q.2 q.2 := wu_LC_fr j.1 fq fq (by (try dsimp only); first | omega | exact fun h => h) (fun i h => by (try dsimp only); first | omega | exact fun h => h) (by (try dsimp only); first | omega | exact fun h => h) (fun i h => by (try dsimp only); first | omega | exact fun h => h)
  have lc : wu_LC r.2 r.2 := wu_LC_fr lcq fr fr (by unfold wt_iF; omega) (fun i h => by unfold wt_iA; omega) (by unfold wt_iF; omega) (fun i h => by unfold wt_iA; omega)
  exact ⟨lc, wu_endSC sc fr (fun i k h => by unfold wt_iF; omega) (fun i h => by unfold wt_iA; omega), wu_endSI si rr fr (fun i k h => by unfold wt_iF; omega) (fun i h => by unfold wt_iA; omega)⟩
set_option maxHeartbeats 4000000 in
theorem wk2_restore (n : Nat) (hn : 4294967297 < n) {σ : wt_St} (v : wt_IV σ) (j : wu_RM σ) : wt_H (wp_ap_restore n σ) (fun q => wt_H (wp_md_restore n q.2) (fun r => wu_RM r.2)) := by
  intro q hq r hr
  obtain ⟨q', hq', hfq⟩ := wq_ap_restore n hn σ
  rw [hq] at hq'
  cases hq'
  have fq := hfq
  have v2 : wt_IV q.2 := wt_IV_cls v fq (fun k => (by (try dsimp only); first | omega | exact fun h => h | (intros; omega) | decide)) (fun i hi => (by (try dsimp only); first | omega | exact fun h => h | (intros; omega) | decide))
  have fr := wf_md_restore n hn v2 r hr
  have rr : wt_RI r.2 := (((wq_md_restore n hn q.2 v2).h) r hr).1.1
  obtain ⟨lcm, scm, sim⟩ := wu_midM j v.1 fq (fun k => by (try dsimp only); first | omega | exact fun h => h) (fun i h => by (try dsimp only); first | omega | exact fun h => h)
  obtain ⟨-, sc, si⟩ := wr_restore n hn v2 scm sim q r hq hr
  have lcq : wu_LC q.2 q.2 := wu_LC_fr j.1 fq fq (by (try dsimp only); first | omega | exact fun h => h) (fun i h => by (try dsimp only); first | omega | exact fun h => h) (by (try dsimp only); first | omega | exact fun h => h) (fun i h => by (try dsimp only); first | omega | exact fun h => h)
  have lc : wu_LC r.2 r.2 := wu_LC_fr lcq fr fr (by unfold wt_iF; omega) (fun i h => by unfold wt_iA; omega) (by unfold wt_iF; omega) (fun i h => by unfold wt_iA; omega)
  exact ⟨lc, wu_endSC sc fr (fun i k h => by unfold wt_iF; omega) (fun i h => by unfold wt_iA; omega), wu_endSI si rr fr (fun i k h => by unfold wt_iF; omega) (fun i h => by unfold wt_iA; omega)⟩
set_option maxHeartbeats 4000000 in
theorem wk2_text (n : Nat) (hn : 4294967297 < n) {σ : wt_St} (x1 : Int32) (v : wt_IV σ) (j : wu_RM σ) : wt_H (wp_ap_text n x1 σ) (fun q => wt_H (wp_md_text n x1 q.2.2) (fun r => wu_RM r.2)) := by
  intro q hq r hr
  obtain ⟨q', hq', hfq⟩ := wq_ap_text n hn x1 σ
  rw [hq] at hq'
  cases hq'
  have fq := hfq.1
  have v2 : wt_IV q.2.2 := wt_IV_cls v fq (fun k => by (try dsimp only); omega) (fun i hi => by (try dsimp only); omega)
  obtain ⟨r', hr', hfr⟩ := wq_md_text n hn x1 q.2.2 v2.1
  rw [hr] at hr'
  cases hr'
  have fr := hfr.1
  have x := wq_md_textH n hn x1 q.2.2 v2.1 r hr
  obtain ⟨a, b, c⟩ := j
  have g41 : 0 ≤ (wt_gf q.2.2 108 41).toInt ∧ (wt_gf q.2.2 108 41).toInt ≤ 3 := wt_Rf9 v2.1
  have g41' : 0 ≤ (wt_gf σ 108 41).toInt ∧ (wt_gf σ 108 41).toInt ≤ 3 := wt_Rf9 v.1
  have a1 : wu_LC q.2.2 q.2.2 := wu_LC_fr a fq fq (by (try dsimp only); omega) (fun i h => by (try dsimp only); omega) (by (try dsimp only); omega) (fun i h => by (try dsimp only); omega)
  have b1 : wu_SC q.2.2 q.2.2 := wu_SC_fr b fq fq (fun k hk => by (try dsimp only); omega) (fun k hk => by (try dsimp only); omega) (fun i p q => by (try dsimp only); omega) (fun i hi => by (try dsimp only); omega)
  have c1 : wu_SI q.2.2 q.2.2 := wu_SI_fr c fq fq g41'.2 (fun i k h => by (try dsimp only); omega) (fun k h => by (try dsimp only); omega) (fun i p q => by (try dsimp only); omega) (fun i h => by (try dsimp only); omega)
  refine ⟨wu_LC_fr a1 fr fr (by (try dsimp only); omega) (fun i h => by (try dsimp only); omega) (by (try dsimp only); omega) (fun i h => by (try dsimp only); omega), ?_, ?_⟩
  · exact wu_SC_eq b1 (fun i p q => fr.2 i (by (try dsimp only); omega)) (fun i hi => fr.2 i (by (try dsimp only); omega)) (fun k hk => fr.1 39 k (by (try dsimp only); omega)) (fun k hk => fr.1 108 k (by (try dsimp only); omega)) x.1
  · exact wu_SI_eq c1 (fr.1 0 14 (by (try dsimp only); omega)) (fr.1 108 41 (by (try dsimp only); omega)) (fun i p q => fr.2 i (by (try dsimp only); omega)) (fun i hi => ⟨fr.1 i 8 (by (try dsimp only); omega), fr.1 i 9 (by (try dsimp only); omega)⟩) (fun i p q => fr.2 i (by (try dsimp only); omega)) (fr.2 111 (by (try dsimp only); omega)) x.1 g41.2
end WTQ1
-- 96l.wear.lean.txt
section WTQ2
/-! bits; what is set, printed and taken apart in one, on both sides -/
def wu_bb (x : Int32) (i : Nat) : Bool := x.toBitVec.getLsbD i
theorem wu_bb_sh : ∀ n, n < 32 → ((nI n &&& 31).toBitVec.smod 32).toNat = n := by decide +kernel
theorem wu_bb_1 : ∀ j, j < 32 → wu_bb 1 j = decide (j = 0) := by decide +kernel
theorem wu_bb_0 (j : Nat) : wu_bb 0 j = false := BitVec.getLsbD_zero
theorem wu_bb_and (x y : Int32) (i : Nat) : wu_bb (x &&& y) i = (wu_bb x i && wu_bb y i) := by unfold wu_bb; rw [Int32.toBitVec_and, BitVec.getLsbD_and]
theorem wu_bb_or (x y : Int32) (i : Nat) : wu_bb (x ||| y) i = (wu_bb x i || wu_bb y i) := by unfold wu_bb; rw [Int32.toBitVec_or, BitVec.getLsbD_or]
theorem wu_bb_ext {x y : Int32} (h : ∀ i, i < 32 → wu_bb x i = wu_bb y i) : x = y := Int32.toBitVec_inj.mp (BitVec.eq_of_getLsbD_eq (fun i hi => h i hi))
theorem wu_bb_shl (n : Nat) (hn : n < 32) (x : Int32) {i : Nat} (hi : i < 32) : wu_bb (x <<< (nI n &&& 31)) i = (decide (n ≤ i) && wu_bb x (i - n)) := by
  unfold wu_bb
  rw [Int32.toBitVec_shiftLeft]
  show (x.toBitVec <<< ((nI n &&& 31).toBitVec.smod 32).toNat).getLsbD i = _
  rw [wu_bb_sh n hn, BitVec.getLsbD_shiftLeft]
  rcases Nat.lt_or_ge i n with h | h
  · simp [h, Nat.not_le.mpr h]
  · simp [hi, h, Nat.not_lt.mpr h]
theorem wu_bb_shr (n : Nat) (hn : n < 32) (x : Int32) {i : Nat} (hi : i < 32) : wu_bb (x >>> (nI n &&& 31)) i = if n + i < 32 then wu_bb x (n + i) else wu_bb x 31 := by
  unfold wu_bb
  rw [Int32.toBitVec_shiftRight]
  show (x.toBitVec.sshiftRight ((nI n &&& 31).toBitVec.smod 32).toNat).getLsbD i = _
  rw [wu_bb_sh n hn, BitVec.getLsbD_sshiftRight, BitVec.msb_eq_getLsbD_last]
  simp [hi]
theorem wu_bt_bb {x : Int32} {i : Nat} (hi : i < 32) : wu_bt x (nI i) ↔ wu_bb x i = false := by
  have e : ∀ j, j < 32 → wu_bb ((x >>> (nI i &&& (31 : Int32))) &&& (1 : Int32)) j = ((if i + j < 32 then wu_bb x (i + j) else wu_bb x 31) && decide (j = 0)) := fun j hj => by
    rw [wu_bb_and, wu_bb_shr i hi x hj, wu_bb_1 j hj]
  unfold wu_bt
  constructor
  · intro h
    have e0 := e 0 (by omega)
    rw [h, wu_bb_0, if_pos (by omega), Nat.add_zero, decide_eq_true rfl, Bool.and_true] at e0
    exact e0.symm
  · intro h
    refine wu_bb_ext (fun j hj => ?_)
    rw [e j hj, wu_bb_0]
    by_cases c : j = 0
    · subst c
      rw [if_pos (by omega), Nat.add_zero, h]
      rfl
    · rw [decide_eq_false c, Bool.and_false]
theorem wu_bt_1 {x : Int32} {i : Nat} (hi : i < 32) (h : ¬ wu_bt x (nI i)) : ((x >>> (nI i &&& (31 : Int32))) &&& (1 : Int32)) = 1 := by
  refine wu_bb_ext (fun j hj => ?_)
  rw [wu_bb_and, wu_bb_shr i hi x hj, wu_bb_1 j hj]
  by_cases c : j = 0
  · subst c
    have hb : wu_bb x i = true := by
      cases hb : wu_bb x i
      · exact absurd ((wu_bt_bb hi).mpr hb) h
      · rfl
    rw [if_pos (by omega), Nat.add_zero, hb]
    rfl
  · rw [decide_eq_false c, Bool.and_false]
theorem wu_bb_set {x : Int32} {i j : Nat} (hi : i < 32) (hj : j < 32) : wu_bb (x ||| ((1 : Int32) <<< (nI i &&& 31))) j = (wu_bb x j || decide (j = i)) := by
  rw [wu_bb_or, wu_bb_shl i hi 1 hj]
  have e : (decide (i ≤ j) && wu_bb 1 (j - i)) = decide (j = i) := by
    by_cases c : i ≤ j
    · rw [decide_eq_true c, Bool.true_and, wu_bb_1 _ (by omega)]
      by_cases d : j = i
      · rw [decide_eq_true d, decide_eq_true (by omega)]
      · rw [decide_eq_false d, decide_eq_false (by omega)]
    · rw [decide_eq_false c, Bool.false_and, decide_eq_false (by omega)]
  rw [e]
theorem wu_bt_or {x : Int32} {i j : Nat} (hi : i < 32) (hj : j < 32) : wu_bt (x ||| ((1 : Int32) <<< (nI i &&& 31))) (nI j) ↔ wu_bt x (nI j) ∧ j ≠ i := by
  rw [wu_bt_bb hj, wu_bt_bb hj, wu_bb_set hi hj, Bool.or_eq_false_iff, decide_eq_false_iff_not]
/-- taken so far: in the reference they lie on a page of their own, in the class they have so many fewer left -/
def wu_WR (a : Nat) (c : Int) (s0 z0 s z : wt_St) (l : Nat) (xt : Int32) (K : Nat) : Prop := (wt_fr (fun _ _ => False) (fun i => i = a) s0 s ∧ wt_fr (fun i k => i = 108 ∧ k = 54) (fun i => i = 124 ∨ i = 288) z0 z) ∧ ((wt_gf z 108 54).toInt = (K : Int) ∧ K ≤ 108) ∧ (∀ l' i' : Nat, l' < 26 → (i' : Int) < (wt_ga z0 111 l').toInt → (wt_ga z 124 (13 * l' + i') = wt_ga z0 124 (13 * l' + i') ∧ wt_ga s a (12 * l' + i') = wt_ga z0 121 (13 * l' + i') ∧ (∀ k, k < K → (wt_ga z 288 k).toInt ≠ ((13 * l' + i' : Nat) : Int)) ∧ (l' = l → wu_bt xt (nI i'))) ∨ (((wt_ga z0 124 (13 * l' + i')).toInt = -1 ∧ (wt_ga z 124 (13 * l' + i')).toInt = 4) ∧ ((wt_ga s a (12 * l' + i')).toInt = (wt_ga z0 121 (13 * l' + i')).toInt - c ∧ c ≤ (wt_ga z0 121 (13 * l' + i')).toInt) ∧ (∃ k, k < K ∧ (wt_ga z 288 k).toInt = ((13 * l' + i' : Nat) : Int)) ∧ (l' < l ∨ (l' = l ∧ ¬ wu_bt xt (nI i'))))) ∧ (∀ k, k < K → ∃ l' i' : Nat, l' < 26 ∧ (i' : Int) < (wt_ga z0 111 l').toInt ∧ (wt_ga z 288 k).toInt = ((13 * l' + i' : Nat) : Int)) ∧ ∀ k k', k < k' → k' < K → wt_ga z 288 k ≠ wt_ga z 288 k'
set_option maxRecDepth 100000 in
set_option maxHeartbeats 8000000 in
theorem wr_wear (n : Nat) (hn : 4294967297 < n) {a : Nat} {x2 : Int32} {s0 z0 : wt_St} (ha : wt_ln a = 312) (h41 : a ≠ 41) (c1 : 1 ≤ x2.toInt) (c4 : x2.toInt ≤ 400) (rz : wt_RI z0) (sk : wu_SK a s0 z0) (hh : wt_gf s0 39 9 = wt_gf z0 108 26) (nd : ∀ l, l < 26 → wt_ga s0 100 l = wt_ga z0 287 l) (h54 : (wt_gf z0 108 54).toInt = 0) : wt_HH (wp_sk_wear n 100 a x2 s0) (wt_it (wp_md_takes_B18 n x2 (4 : Int32)) n ((0 : Int32), z0)) (fun q y => y.1 = 1 ∧ ∃ K xt, wu_WR a x2.toInt s0 z0 q y.2 26 xt K) := by
  have k0 : (0 : Int32).toInt = 0 := by decide
  have k4 : (4 : Int32).toInt = 4 := by decide
  have k12 : (12 : Int32).toInt = 12 := by decide
  have k26 : (26 : Int32).toInt = 26 := by decide
  have a100 : a ≠ 100 := fun e => by rw [e] at ha; exact absurd ha (by decide)
  have a5 : a ≠ 5 := fun e => by rw [e] at ha; exact absurd ha (by decide)
  have hl26 : (nI (wt_ln 100)).toInt = 26 := by decide
  unfold wp_sk_wear
  refine wt_HH_it (fun (t : Int32 × wt_St) (u : Int32 × wt_St) => u.1 = t.1 ∧ 0 ≤ t.1.toInt ∧ t.1.toInt ≤ 26 ∧ ∃ K, wu_WR a x2.toInt s0 z0 t.2 u.2 (Int32.toNatClampNeg t.1) 0 K) (fun KA KM t u I hK => ?_) n n _ _ ⟨rfl, by show 0 ≤ ((0 : Int32)).toInt; omega, by show ((0 : Int32)).toInt ≤ 26; omega, 0, ⟨wt_fr.rf, wt_fr.rf⟩, ⟨h54, by omega⟩, fun l' i' hl hi => Or.inl ⟨rfl, ((sk l' hl).2.2 i' (by rw [(sk l' hl).1]; exact hi)).1, fun k hk => absurd hk (by omega), fun _ => wu_bt0 _⟩, fun k hk => absurd hk (by omega), fun k k' _ hk => absurd hk (by omega)⟩
  obtain ⟨e1, i0, i1, K, st⟩ := I
  have et := wt_tnI i0
  unfold wp_sk_wear_B3 wp_md_takes_B18
  rw [e1]
  by_cases hc : (26 : Int) ≤ t.1.toInt
  · rw [if_pos (Int32.le_iff_toInt_le.mpr (by omega)), if_pos (Int32.le_iff_toInt_le.mpr (by omega))]
    have e26 : Int32.toNatClampNeg t.1 = 26 := by omega
    rw [e26] at st
    exact wt_HH_some ⟨rfl, K, 0, st⟩
  · rw [if_neg (fun h => by have := wt_cle h; omega), if_neg (fun h => by have := wt_cle h; omega)]
    have ei := wt_i1 (c := t.1) (by omega)
    refine wt_HH_it (fun (p : Int32 × Int32 × wt_St) (r : Int32 × wt_St) => r.1 = p.2.1 ∧ 0 ≤ p.2.1.toInt ∧ ∃ K, wu_WR a x2.toInt s0 z0 p.2.2 r.2 (Int32.toNatClampNeg t.1) p.1 K) (fun KB KN p r J hK2 => ?_) n n _ _ ⟨rfl, by show 0 ≤ ((0 : Int32)).toInt; omega, K, st⟩
    obtain ⟨f1, j0, K, st⟩ := J
    have ep := wt_tnI j0
    obtain ⟨⟨fs, fz⟩, ⟨s1, s2⟩, s3, s4, s5⟩ := st
    unfold wp_sk_wear_B16 wp_md_takes_B27
    rw [f1]
    refine wt_HH_gl (fun _ => ?_)
    refine wt_HH_gr (fun _ => ?_)
    have nde : wt_ga p.2.2 100 (Int32.toNatClampNeg t.1) = wt_ga r.2 287 (Int32.toNatClampNeg t.1) := by
      rw [fs.2 100 (fun h => a100 h.symm), fz.2 287 (by decide)]
      exact nd _ (by omega)
    rw [nde]
    by_cases hd : (wt_ga r.2 287 (Int32.toNatClampNeg t.1)) ≤ p.2.1
    · rw [if_pos hd, if_pos hd]
      refine hK _ _ ⟨rfl, by show 0 ≤ (t.1 + (1 : Int32)).toInt; omega, by show (t.1 + (1 : Int32)).toInt ≤ 26; omega, K, ⟨fs, fz⟩, ⟨s1, s2⟩, fun l' i' hl hi => ?_, s4, s5⟩
      have e := wt_tnI (x := t.1 + (1 : Int32)) (by omega)
      show (wt_ga r.2 124 (13 * l' + i') = wt_ga z0 124 (13 * l' + i') ∧ wt_ga p.2.2 a (12 * l' + i') = wt_ga z0 121 (13 * l' + i') ∧ (∀ k, k < K → (wt_ga r.2 288 k).toInt ≠ ((13 * l' + i' : Nat) : Int)) ∧ (l' = Int32.toNatClampNeg (t.1 + (1 : Int32)) → wu_bt 0 (nI i'))) ∨ (((wt_ga z0 124 (13 * l' + i')).toInt = -1 ∧ (wt_ga r.2 124 (13 * l' + i')).toInt = 4) ∧ ((wt_ga p.2.2 a (12 * l' + i')).toInt = (wt_ga z0 121 (13 * l' + i')).toInt - x2.toInt ∧ x2.toInt ≤ (wt_ga z0 121 (13 * l' + i')).toInt) ∧ (∃ k, k < K ∧ (wt_ga r.2 288 k).toInt = ((13 * l' + i' : Nat) : Int)) ∧ (l' < Int32.toNatClampNeg (t.1 + (1 : Int32)) ∨ (l' = Int32.toNatClampNeg (t.1 + (1 : Int32)) ∧ ¬ wu_bt 0 (nI i'))))
      rcases s3 l' i' hl hi with ⟨b1, b2, b3, -⟩ | ⟨b1, b2, b3, b4⟩
      · exact Or.inl ⟨b1, b2, b3, fun _ => wu_bt0 _⟩
      · exact Or.inr ⟨b1, b2, b3, Or.inl (by omega)⟩
    · rw [if_neg hd, if_neg hd]
      have hd' := wt_ncle hd
      obtain ⟨m, em⟩ : ∃ m : Nat, (wt_ga s0 5 (Int32.toNatClampNeg t.1)).toInt = (m : Int) := ⟨_, (wt_tnI (sk _ (show Int32.toNatClampNeg t.1 < 26 by omega)).2.1.1).symm⟩
      obtain ⟨k1', k2', k3'⟩ := sk (Int32.toNatClampNeg t.1) (by omega)
      have em0 : (wt_ga z0 111 (Int32.toNatClampNeg t.1)).toInt = (m : Int) := by rw [← k1']; exact em
      have m12 : m ≤ 12 := by omega
      refine wt_HH_b (wr_choose n hn (a := a) (l := Int32.toNatClampNeg t.1) (m := m) (xt := p.1) ha (by omega) (by omega) (by rw [fs.2 5 (fun h => a5 h.symm)]; exact em) (by rw [fz.2 111 (by decide)]; exact em0) m12 (by rw [fs.1 39 9 (fun h => h), fz.1 108 26 (by decide)]; exact hh) (fun i hi => ?_)) (fun q4 y6 h4 => ?_)
      · have e41 : wt_ga p.2.2 41 (12 * Int32.toNatClampNeg t.1 + i) = wt_ga z0 124 (13 * Int32.toNatClampNeg t.1 + i) := by
          rw [fs.2 41 (fun h => h41 h.symm)]
          exact (k3' i (by omega)).2
        rw [e41, fz.2 121 (by decide)]
        rcases s3 (Int32.toNatClampNeg t.1) i (by omega) (by omega) with ⟨b1, b2, b3, b4⟩ | ⟨b1, b2, b3, b4⟩
        · rw [b1]
          exact ⟨⟨fun h => h.2, fun h => ⟨b4 rfl, h⟩⟩, fun _ => b2⟩
        · refine ⟨⟨fun h => ?_, fun h => by rw [b1.2] at h; omega⟩, fun h => by rw [b1.2] at h; omega⟩
          rcases b4 with b4 | ⟨-, b4⟩
          · omega
          · exact absurd h.1 b4
      · obtain ⟨g1, g2, g3⟩ := h4
        rw [g1, g2]
        refine wt_HH_gr (fun gd => ?_)
        have gd' := wt_ixn gd
        rcases g3 with ⟨-, b2⟩ | ⟨i1', b1, b2, b3, b4, b5⟩
        · exfalso
          have := wt_ceq b2
          rw [wt_lm1] at this
          omega
        · rw [if_neg (show ¬ q4.1 = (-1 : Int32) from fun h => by have := wt_ceq h; rw [wt_lm1] at this; omega)]
          have ey : Int32.toNatClampNeg y6.1 = 13 * Int32.toNatClampNeg t.1 + i1' := wt_tnN b3
          rw [ey]
          rcases s3 (Int32.toNatClampNeg t.1) i1' (by omega) (by omega) with ⟨u1, u2, u3, u4⟩ | ⟨u1, -⟩
          rotate_left
          · rw [u1.2] at b4
            omega
          have e121 : wt_ga r.2 121 (13 * Int32.toNatClampNeg t.1 + i1') = wt_ga z0 121 (13 * Int32.toNatClampNeg t.1 + i1') := fz.2 121 (by decide) _
          have hz : 0 ≤ (wt_ga z0 121 (13 * Int32.toNatClampNeg t.1 + i1')).toInt ∧ (wt_ga z0 121 (13 * Int32.toNatClampNeg t.1 + i1')).toInt ≤ 400 := wt_Ra3 rz 121 (show 120 ≤ 121 by omega) (show 121 < 122 by omega) _
          refine wt_HH_l (wh_look n hn (k := 12 * Int32.toNatClampNeg t.1 + i1') b2 (by rw [ha]; omega)) (fun q6 h6 => ?_)
          subst h6
          dsimp only
          rw [u2]
          refine wt_HH_l (wh_put n (k := 12 * Int32.toNatClampNeg t.1 + i1') b2 (by rw [ha]; omega)) (fun q7 δ => ?_)
          have d1 := wt_fr_sa δ
          obtain ⟨z1, ε1⟩ : ∃ o : wt_St, o = wt_sa r.2 124 (13 * Int32.toNatClampNeg t.1 + i1') (4 : Int32) := ⟨_, rfl⟩
          rw [← ε1]
          have h1 := wt_fr_sa ε1
          have e54 : wt_gf z1 108 54 = wt_gf r.2 108 54 := h1.1 108 54 (fun h => h)
          have eK : Int32.toNatClampNeg (wt_gf r.2 108 54) = K := wt_tnN s1
          rw [e54, eK]
          refine wt_HH_gr (fun gd2 => ?_)
          have gd2' : K < 108 := by
            rcases Nat.lt_or_ge K 108 with h | h
            · exact h
            · exact absurd (Or.inr h) gd2
          obtain ⟨z2, ε2⟩ : ∃ o : wt_St, o = wt_sa z1 288 K y6.1 := ⟨_, rfl⟩
          rw [← ε2]
          have h2 := wt_fr_sa ε2
          have e542 : wt_gf z2 108 54 = wt_gf r.2 108 54 := (h2.1 108 54 (fun h => h)).trans e54
          rw [e542]
          obtain ⟨z3, ε3⟩ : ∃ o : wt_St, o = wt_sf z2 108 54 ((wt_gf r.2 108 54) + (1 : Int32)) := ⟨_, rfl⟩
          rw [← ε3]
          have h3 := wt_fr_sf ε3
          have ej := wt_i1 (c := wt_gf r.2 108 54) (by omega)
          have ej1 := wt_i1 (c := p.2.1) (by have := wt_bd (wt_ga r.2 287 (Int32.toNatClampNeg t.1)); omega)
          have B124 : ∀ j, wt_ga z3 124 j = wt_ga z1 124 j := fun j => by rw [h3.2 124 (fun h => h)]; exact h2.2 124 (by decide) j
          have B288 : ∀ j, wt_ga z3 288 j = wt_ga z2 288 j := h3.2 288 (fun h => h)
          have C288 : ∀ j, wt_ga z1 288 j = wt_ga r.2 288 j := h1.2 288 (by decide)
          have v288 : wt_ga z3 288 K = y6.1 := by rw [B288]; exact wt_v_sa ε2
          have o288 : ∀ k, k < K → wt_ga z3 288 k = wt_ga r.2 288 k := fun k hk => by rw [B288, wt_w_sa ε2 k (by omega), C288]
          have v124 : wt_ga z3 124 (13 * Int32.toNatClampNeg t.1 + i1') = (4 : Int32) := by rw [B124]; exact wt_v_sa ε1
          have o124 : ∀ j, j ≠ 13 * Int32.toNatClampNeg t.1 + i1' → wt_ga z3 124 j = wt_ga r.2 124 j := fun j hj => by rw [B124]; exact wt_w_sa ε1 j hj
          have va : wt_ga q7 a (12 * Int32.toNatClampNeg t.1 + i1') = wt_ga z0 121 (13 * Int32.toNatClampNeg t.1 + i1') - x2 := wt_v_sa δ
          have oa : ∀ j, j ≠ 12 * Int32.toNatClampNeg t.1 + i1' → wt_ga q7 a j = wt_ga p.2.2 a j := fun j hj => wt_w_sa δ j hj
          have es := wt_subE (x := wt_ga z0 121 (13 * Int32.toNatClampNeg t.1 + i1')) (y := x2) (by omega) (by omega)
          have em12 := wt_mulR (x := t.1) k12 (by omega) (by omega)
          have eb : q4.1 - t.1 * (12 : Int32) = nI i1' := by
            refine wt_eqI ?_
            rw [wt_subE (x := q4.1) (y := t.1 * (12 : Int32)) (by omega) (by omega), nI_toInt (by omega)]
            omega
          rw [eb]
          have inj : ∀ l' i' : Nat, l' < 26 → (i' : Int) < (wt_ga z0 111 l').toInt → 13 * l' + i' = 13 * Int32.toNatClampNeg t.1 + i1' ∨ 12 * l' + i' = 12 * Int32.toNatClampNeg t.1 + i1' → l' = Int32.toNatClampNeg t.1 ∧ i' = i1' := fun l' i' hl hi h => by
            have b := (sk l' hl).2.1.2
            rw [(sk l' hl).1] at b
            omega
          refine hK2 _ _ ⟨rfl, by show 0 ≤ (p.2.1 + (1 : Int32)).toInt; omega, K + 1, ⟨fs.sa δ rfl, ((fz.sa ε1 (Or.inl rfl)).sa ε2 (Or.inr rfl)).sf ε3 ⟨rfl, rfl⟩⟩, ⟨?_, by omega⟩, fun l' i' hl hi => ?_, fun k hk => ?_, fun k k' hk hk' => ?_⟩
          · show (wt_gf z3 108 54).toInt = _
            rw [wt_v_sf ε3]; omega
          · show (wt_ga z3 124 (13 * l' + i') = wt_ga z0 124 (13 * l' + i') ∧ wt_ga q7 a (12 * l' + i') = wt_ga z0 121 (13 * l' + i') ∧ (∀ k, k < K + 1 → (wt_ga z3 288 k).toInt ≠ ((13 * l' + i' : Nat) : Int)) ∧ (l' = Int32.toNatClampNeg t.1 → wu_bt (p.1 ||| ((1 : Int32) <<< (nI i1' &&& 31))) (nI i'))) ∨ (((wt_ga z0 124 (13 * l' + i')).toInt = -1 ∧ (wt_ga z3 124 (13 * l' + i')).toInt = 4) ∧ ((wt_ga q7 a (12 * l' + i')).toInt = (wt_ga z0 121 (13 * l' + i')).toInt - x2.toInt ∧ x2.toInt ≤ (wt_ga z0 121 (13 * l' + i')).toInt) ∧ (∃ k, k < K + 1 ∧ (wt_ga z3 288 k).toInt = ((13 * l' + i' : Nat) : Int)) ∧ (l' < Int32.toNatClampNeg t.1 ∨ (l' = Int32.toNatClampNeg t.1 ∧ ¬ wu_bt (p.1 ||| ((1 : Int32) <<< (nI i1' &&& 31))) (nI i'))))
            by_cases hq : l' = Int32.toNatClampNeg t.1 ∧ i' = i1'
            · rw [hq.1, hq.2, v124, va]
              exact Or.inr ⟨⟨by rw [← u1]; exact b4, k4⟩, ⟨es, by rw [← e121]; exact b5⟩, ⟨K, by omega, by rw [v288]; exact b3⟩, Or.inr ⟨rfl, fun h => ((wu_bt_or (by omega) (by omega)).mp h).2 rfl⟩⟩
            · have n1 : 12 * l' + i' ≠ 12 * Int32.toNatClampNeg t.1 + i1' := fun h => hq (inj l' i' hl hi (Or.inr h))
              have n2 : 13 * l' + i' ≠ 13 * Int32.toNatClampNeg t.1 + i1' := fun h => hq (inj l' i' hl hi (Or.inl h))
              have i12 : i' < 12 := by
                have b := (sk l' hl).2.1.2
                rw [(sk l' hl).1] at b
                omega
              rw [o124 _ n2, oa _ n1]
              rcases s3 l' i' hl hi with ⟨w1, w2, w3, w4⟩ | ⟨w1, w2, ⟨k, w3, w4⟩, w5⟩
              · refine Or.inl ⟨w1, w2, fun k hk => ?_, fun h => (wu_bt_or (by omega) (by omega)).mpr ⟨w4 h, fun h2 => hq ⟨h, h2⟩⟩⟩
                by_cases h : k = K
                · rw [h, v288, b3]; omega
                · rw [o288 k (by omega)]; exact w3 k (by omega)
              · refine Or.inr ⟨w1, w2, ⟨k, by omega, by rw [o288 k w3]; exact w4⟩, ?_⟩
                rcases w5 with w5 | ⟨w5, w6⟩
                · exact Or.inl w5
                · exact Or.inr ⟨w5, fun h => w6 ((wu_bt_or (by omega) (by omega)).mp h).1⟩
          · show ∃ l' i' : Nat, l' < 26 ∧ (i' : Int) < (wt_ga z0 111 l').toInt ∧ (wt_ga z3 288 k).toInt = ((13 * l' + i' : Nat) : Int)
            by_cases h : k = K
            · exact ⟨Int32.toNatClampNeg t.1, i1', by omega, by omega, by rw [h, v288]; exact b3⟩
            · rw [o288 k (by omega)]; exact s4 k (by omega)
          · show wt_ga z3 288 k ≠ wt_ga z3 288 k'
            by_cases h : k' = K
            · rw [h, v288, o288 k (by omega)]
              intro e
              have := u3 k (by omega)
              rw [e, b3] at this
              exact this rfl
            · rw [o288 k' (by omega), o288 k (by omega)]; exact s5 k k' hk (by omega)
/-- the reference's second way over what it took: so many fewer left, back in the case -/
theorem wh_unlay (n : Nat) {x1 : Int32} {K : Nat} {z : wt_St} (hK : (wt_gf z 108 54).toInt = (K : Int)) (ds : ∀ k k', k < k' → k' < K → wt_ga z 288 k ≠ wt_ga z 288 k') : wt_H (wt_it (wp_md_isPrinted_B32 n x1) n ((0 : Int32), z)) (fun q => q.1 = 1 ∧ wt_fr (fun _ _ => False) (fun i => i = 121 ∨ i = 124) z q.2 ∧ ∀ c : Nat, ((∃ k, k < K ∧ (wt_ga z 288 k).toInt = (c : Int)) → wt_ga q.2 121 c = wt_ga z 121 c - wt_ga z (264 + Int32.toNatClampNeg x1) 1 ∧ wt_ga q.2 124 c = (-1 : Int32)) ∧ ((∀ k, k < K → (wt_ga z 288 k).toInt ≠ (c : Int)) → wt_ga q.2 121 c = wt_ga z 121 c ∧ wt_ga q.2 124 c = wt_ga z 124 c)) := by
  have k0 : (0 : Int32).toInt = 0 := by decide
  refine wt_H_it (fun t : Int32 × wt_St => 0 ≤ t.1.toInt ∧ t.1.toInt ≤ (K : Int) ∧ wt_fr (fun _ _ => False) (fun i => i = 121 ∨ i = 124) z t.2 ∧ ∀ c : Nat, ((∃ k : Nat, (k : Int) < t.1.toInt ∧ (wt_ga z 288 k).toInt = (c : Int)) → wt_ga t.2 121 c = wt_ga z 121 c - wt_ga z (264 + Int32.toNatClampNeg x1) 1 ∧ wt_ga t.2 124 c = (-1 : Int32)) ∧ ((∀ k : Nat, (k : Int) < t.1.toInt → (wt_ga z 288 k).toInt ≠ (c : Int)) → wt_ga t.2 121 c = wt_ga z 121 c ∧ wt_ga t.2 124 c = wt_ga z 124 c)) (fun KK t I hK2 => ?_) n _ ⟨by show 0 ≤ ((0 : Int32)).toInt; omega, by show ((0 : Int32)).toInt ≤ _; omega, wt_fr.rf, fun c => ⟨fun ⟨k, hk, _⟩ => absurd (show (k : Int) < ((0 : Int32)).toInt from hk) (by omega), fun _ => ⟨rfl, rfl⟩⟩⟩
  obtain ⟨i0, i1, f, i2⟩ := I
  have et := wt_tnI i0
  unfold wp_md_isPrinted_B32
  rw [f.1 108 54 (fun h => h)]
  refine wt_H_if (fun c => ?_) (fun c => ?_)
  · have c' := wt_cle c
    exact wt_H_some ⟨rfl, f, fun c => ⟨fun ⟨k, hk, e⟩ => (i2 c).1 ⟨k, by omega, e⟩, fun h => (i2 c).2 (fun k hk => h k (by omega))⟩⟩
  · have c' := wt_ncle c
    have ei := wt_i1 (c := t.1) (by have := wt_bd (wt_gf z 108 54); omega)
    have e1 : Int32.toNatClampNeg (1 : Int32) = 1 := by decide
    rw [f.2 288 (by decide), e1]
    refine wt_H_gd (fun _ => wt_H_gd (fun gd => wt_H_gd (fun gx => wt_H_gd (fun _ => wt_H_gd (fun _ => wt_H_gd (fun _ => ?_))))))
    have gd' := wt_ixn gd
    have gx' := wt_ixn gx
    have ed := wt_tnI gd'.1
    obtain ⟨d, hd⟩ : ∃ d : Nat, d = Int32.toNatClampNeg (wt_ga z 288 (Int32.toNatClampNeg t.1)) := ⟨_, rfl⟩
    rw [← hd]
    have ex := wt_tnI gx'.1
    have w264 : wt_ga t.2 (264 + Int32.toNatClampNeg x1) 1 = wt_ga z (264 + Int32.toNatClampNeg x1) 1 := f.2 _ (by omega) 1
    rw [w264]
    have dd : ∀ k : Nat, (k : Int) < t.1.toInt → (wt_ga z 288 k).toInt ≠ (d : Int) := fun k hk e => by
      have := ds k (Int32.toNatClampNeg t.1) (by omega) (by omega)
      exact this (wt_eqI (by omega))
    obtain ⟨o1, o2⟩ := (i2 d).2 dd
    rw [o1]
    obtain ⟨s1, ε1⟩ : ∃ o : wt_St, o = wt_sa t.2 121 d ((wt_ga z 121 d) - (wt_ga z (264 + Int32.toNatClampNeg x1) 1)) := ⟨_, rfl⟩
    rw [← ε1]
    have f1 := wt_fr_sa ε1
    rw [f1.2 288 (by decide), f.2 288 (by decide), ← hd]
    refine wt_H_gd (fun _ => ?_)
    obtain ⟨s2, ε2⟩ : ∃ o : wt_St, o = wt_sa s1 124 d (-1 : Int32) := ⟨_, rfl⟩
    rw [← ε2]
    have f2 := wt_fr_sa ε2
    have a121 : ∀ c, wt_ga s2 121 c = wt_ga s1 121 c := f2.2 121 (by decide)
    have a124 : ∀ c, wt_ga s1 124 c = wt_ga t.2 124 c := f1.2 124 (by decide)
    refine hK2 _ ⟨by show 0 ≤ (t.1 + (1 : Int32)).toInt; omega, by show (t.1 + (1 : Int32)).toInt ≤ _; omega, (f.sa ε1 (Or.inl rfl)).sa ε2 (Or.inr rfl), fun c => ?_⟩
    show ((∃ k : Nat, (k : Int) < (t.1 + (1 : Int32)).toInt ∧ (wt_ga z 288 k).toInt = (c : Int)) → wt_ga s2 121 c = wt_ga z 121 c - wt_ga z (264 + Int32.toNatClampNeg x1) 1 ∧ wt_ga s2 124 c = (-1 : Int32)) ∧ ((∀ k : Nat, (k : Int) < (t.1 + (1 : Int32)).toInt → (wt_ga z 288 k).toInt ≠ (c : Int)) → wt_ga s2 121 c = wt_ga z 121 c ∧ wt_ga s2 124 c = wt_ga z 124 c)
    by_cases hc : c = d
    · subst hc
      rw [a121, wt_v_sa ε1, wt_v_sa ε2]
      exact ⟨fun _ => ⟨rfl, rfl⟩, fun h => absurd (by omega) (h (Int32.toNatClampNeg t.1) (by omega))⟩
    · rw [a121, wt_w_sa ε1 c hc, wt_w_sa ε2 c hc, a124]
      refine ⟨fun ⟨k, hk, e⟩ => (i2 c).1 ⟨k, ?_, e⟩, fun h => (i2 c).2 (fun k hk => h k (by omega))⟩
      have : k ≠ Int32.toNatClampNeg t.1 := fun h => hc (by rw [h] at e; omega)
      omega
/-- one that is wanted is printed, or can't be, on both sides -/
theorem wt_HH_andr {α β : Type} {p : Option α} {p' : Option β} {Q : α → β → Prop} {P : β → Prop} (h : wt_HH p p' Q) (h' : wt_H p' P) : wt_HH p p' (fun a b => Q a b ∧ P b) := fun a b e e' => ⟨h a b e e', h' b e'⟩
theorem wt_HH_andl {α β : Type} {p : Option α} {p' : Option β} {Q : α → β → Prop} {P : α → Prop} (h : wt_HH p p' Q) (h' : wt_H p P) : wt_HH p p' (fun a b => Q a b ∧ P a) := fun a b e e' => ⟨h a b e e', h' a e⟩
/-- what is wanted, alike on both sides -/
def wu_WW (s z : wt_St) : Prop := wu_SW (wt_gf z 108 39).toInt (wt_ga s 44) (wt_ga s 45) (wt_ga s 46) (wt_ga s 47) (wt_gf s 39 8) (fun k => wt_ga z (264 + k)) (wt_gf z 108 40)
set_option maxHeartbeats 4000000 in
theorem wr_printOne (n : Nat) (hn : 4294967297 < n) {a w : Nat} {x1 : Int32} {s z : wt_St} (ha : wt_ln a = 312) (h41 : a ≠ 41) (r : wt_RI z) (sk : wu_SK a s z) (to : wt_TO s z) (tx : wu_TX s z) (ww : wu_WW s z) (hh : wt_gf s 39 9 = wt_gf z 108 26) (hx : x1.toInt = (w : Int)) (hw : (w : Int) < (wt_gf z 108 40).toInt) : wt_HH (wp_wk_printOne n a x1 s) (wp_md_isPrinted n x1 z) (fun q y => (q.1 = y.1 ∧ (y.1 = 0 ∨ y.1 = 1)) ∧ wt_fr (fun _ _ => False) (fun i => i = a ∨ i = 100) s q.2 ∧ wt_fr (fun i k => i = 108 ∧ k = 54) (fun i => i = 287 ∨ i = 124 ∨ i = 288 ∨ i = 121) z y.2 ∧ wt_RI y.2 ∧ wu_SK a q.2 y.2 ∧ (∀ c, wt_ga y.2 124 c = wt_ga z 124 c) ∧ ∀ l i : Nat, l < 26 → (i : Int) < (wt_ga z 111 l).toInt → (wt_ga y.2 121 (13 * l + i)).toInt ≤ (wt_ga z 121 (13 * l + i)).toInt) := by
  have k0 : (0 : Int32).toInt = 0 := by decide
  have a100 : a ≠ 100 := fun e => by rw [e] at ha; exact absurd ha (by decide)
  have a5 : a ≠ 5 := fun e => by rw [e] at ha; exact absurd ha (by decide)
  have hz : 0 ≤ (wt_gf z 108 40).toInt ∧ (wt_gf z 108 40).toInt ≤ 10 := wt_Rf8 r
  have ex := wt_tnN hx
  obtain ⟨w1, w2, w3⟩ := ww
  obtain ⟨⟨t0, t1, t2, t3⟩, ⟨b0, b1⟩, ⟨b2, b3⟩, -⟩ := w3 w (by rw [w1]; exact hw)
  have R1 := (wq_md_isPrinted n hn x1 z r (by omega) (by omega)).h
  have R2 := wh_isPrintedR n hn (x1 := x1) r (by omega) (by omega)
  refine (wt_HH_andr (Q := fun q y => (q.1 = y.1 ∧ (y.1 = 0 ∨ y.1 = 1)) ∧ wt_fr (fun _ _ => False) (fun i => i = a ∨ i = 100) s q.2 ∧ wu_SK a q.2 y.2 ∧ ∀ l i : Nat, l < 26 → (i : Int) < (wt_ga z 111 l).toInt → (wt_ga y.2 121 (13 * l + i)).toInt ≤ (wt_ga z 121 (13 * l + i)).toInt) ?_ (wt_H_and R1 R2)).imp (fun q y h => ⟨h.1.1, h.1.2.1, h.2.1.1, h.2.1.2, h.1.2.2.1, h.2.2, h.1.2.2.2⟩)
  unfold wp_wk_printOne wp_md_isPrinted
  refine wt_HH_l (wh_look n hn (k := w) hx (by rw [show wt_ln 45 = 10 from by decide]; omega)) (fun q hq => ?_)
  subst hq
  refine wt_HH_l (wh_look n hn (k := w) hx (by rw [show wt_ln 44 = 10 from by decide]; omega)) (fun q hq => ?_)
  subst hq
  dsimp only
  refine wt_HH_gr (fun _ => wt_HH_gr (fun _ => ?_))
  have e0 : Int32.toNatClampNeg (0 : Int32) = 0 := by decide
  have e1 : Int32.toNatClampNeg (1 : Int32) = 1 := by decide
  rw [ex, e0, e1]
  have t0' : wt_ga s 44 w = wt_ga z (264 + w) 0 := t0
  have t1' : wt_ga s 45 w = wt_ga z (264 + w) 1 := t1
  rw [← t0', t1']
  refine wt_HH_b (wr_spell n hn (a := 100) (by decide) (by decide) r to tx b0 b1) (fun s1 z1 h => ?_)
  obtain ⟨f1, g1, r1, nd, -⟩ := h
  refine wt_HH_gr (fun _ => wt_HH_gr (fun _ => ?_))
  have c1 : wt_ga z1 (264 + w) 1 = wt_ga z (264 + w) 1 := g1.2 _ (by omega) 1
  rw [c1]
  have cb : 1 ≤ (wt_ga z (264 + w) 1).toInt ∧ (wt_ga z (264 + w) 1).toInt ≤ 400 := by rw [← t1']; exact ⟨b2, b3⟩
  have sk1 : wu_SK a s1 z1 := wu_SK_fr sk f1 g1 ⟨by decide, a100, by decide⟩ ⟨by decide, by decide, by decide⟩
  have hh1 : wt_gf s1 39 9 = wt_gf z1 108 26 := by rw [f1.1 39 9 (fun h => h), g1.1 108 26 (fun h => h)]; exact hh
  have same : ∀ l, l < 26 → (wu_rd s1 a (wt_ga z (264 + w) 1).toInt l < (wt_ga s1 100 l).toInt ↔ wt_go z1 (wt_ga z (264 + w) 1).toInt l < (wt_ga z1 287 l).toInt) := fun l hl => by
    rw [wu_rd_go sk1 hl, nd l hl]
  unfold wp_md_takes
  refine wt_HH_l (wh_lacking n hn (a1 := 100) (x2 := wt_ga z (264 + w) 1) (by decide) ha (fun l hl => (sk1 l hl).2.1)) (fun q4 h4 => ?_)
  refine wt_HH_rb (wh_lackingM n hn r1) (fun y4 h5 => ?_)
  have e45 : q4.1 = y4.1 := wt_fst_u h4.2 h5.2 same
  rw [h4.1, h5.1, e45]
  by_cases c : y4.1 = (-1 : Int32)
  · rw [if_pos c, if_pos c]
    obtain ⟨z2, ε⟩ : ∃ o : wt_St, o = wt_sf z1 108 54 (0 : Int32) := ⟨_, rfl⟩
    rw [← ε]
    have g2 := wt_fr_sf ε
    have r2 : wt_RI z2 := wt_Rm10 r1 ε (by decide) (by decide)
    have sk2 : wu_SK a s1 z2 := wu_SK_fr sk1 (wt_fr.rf (F := fun _ _ => False) (A := fun _ => False)) g2 ⟨fun h => h, fun h => h, fun h => h⟩ ⟨fun h => h, fun h => h, fun h => h⟩
    refine wt_HH_b (wr_wear n hn ha h41 cb.1 cb.2 r2 sk2 (by rw [g2.1 108 26 (by decide)]; exact hh1) (fun l hl => by rw [g2.2 287 (fun h => h)]; exact nd l hl) (by rw [wt_v_sf ε]; exact k0)) (fun s3 y6 h => ?_)
    obtain ⟨v1, K, xt, ⟨fs, fz⟩, ⟨u1, u2⟩, u3, u4, u5⟩ := h
    rw [if_neg (show ¬ y6.1 = 0 by rw [v1]; decide)]
    refine wt_HH_rr (wh_unlay n (x1 := x1) u1 u5) (fun y hy => wt_H_some ?_)
    obtain ⟨y1, fy, y3⟩ := hy
    rw [ex] at y3
    have w264 : wt_ga y6.2 (264 + w) 1 = wt_ga z (264 + w) 1 := by
      rw [fz.2 _ (by omega), g2.2 _ (fun h => h)]
      exact c1
    rw [w264] at y3
    have z121 : ∀ c, wt_ga z2 121 c = wt_ga z 121 c := fun c => (g2.2 121 (fun h => h) c).trans (g1.2 121 (by decide) c)
    have x121 : ∀ c, wt_ga y6.2 121 c = wt_ga z2 121 c := fz.2 121 (by decide)
    have z111 : ∀ c, wt_ga z2 111 c = wt_ga z 111 c := fun c => (g2.2 111 (fun h => h) c).trans (g1.2 111 (by decide) c)
    have pr : ∀ l i : Nat, l < 26 → (i : Int) < (wt_ga z 111 l).toInt → (wt_ga s3 a (12 * l + i) = wt_ga y.2 121 (13 * l + i) ∧ wt_ga z2 124 (13 * l + i) = wt_ga y.2 124 (13 * l + i)) ∧ (wt_ga y.2 121 (13 * l + i)).toInt ≤ (wt_ga z 121 (13 * l + i)).toInt := fun l i hl hi => by
      obtain ⟨y4, y5⟩ := y3 (13 * l + i)
      have hzz : 0 ≤ (wt_ga z 121 (13 * l + i)).toInt ∧ (wt_ga z 121 (13 * l + i)).toInt ≤ 400 := wt_Ra3 r 121 (show 120 ≤ 121 by omega) (show 121 < 122 by omega) _
      rcases u3 l i hl (by rw [z111]; exact hi) with ⟨p1, p2, p3, -⟩ | ⟨⟨p1, p2⟩, ⟨p3, p4⟩, p5, -⟩
      · obtain ⟨y6', y7⟩ := y5 p3
        rw [y6', y7, x121, p1, p2, z121]
        exact ⟨⟨rfl, rfl⟩, Int.le_refl _⟩
      · obtain ⟨y6', y7⟩ := y4 p5
        rw [y6', y7, x121, z121]
        rw [z121] at p3 p4
        have es := wt_subE (x := wt_ga z 121 (13 * l + i)) (y := wt_ga z (264 + w) 1) (by omega) (by omega)
        exact ⟨⟨wt_eqI (by rw [p3, es]), wt_eqI (by rw [p1, wt_lm1])⟩, by omega⟩
    refine ⟨⟨y1.symm, Or.inr y1⟩, wt_fr.tr (F := fun _ _ => False) (A := fun i => i = a ∨ i = 100) ⟨f1.1, fun i hi => f1.2 i (fun h => hi (Or.inr h))⟩ fs (fun i k h => h) (fun i h => Or.inl h), fun l hl => ?_, fun l i hl hi => (pr l i hl hi).2⟩
    obtain ⟨m1, m2, m3⟩ := sk2 l hl
    show wt_ga s3 5 l = wt_ga y.2 111 l ∧ (0 ≤ (wt_ga s3 5 l).toInt ∧ (wt_ga s3 5 l).toInt ≤ 12) ∧ ∀ i : Nat, (i : Int) < (wt_ga s3 5 l).toInt → wt_ga s3 a (12 * l + i) = wt_ga y.2 121 (13 * l + i) ∧ wt_ga s3 41 (12 * l + i) = wt_ga y.2 124 (13 * l + i)
    rw [fs.2 5 (fun h => a5 h.symm), fy.2 111 (by decide), fz.2 111 (by decide)]
    refine ⟨m1, m2, fun i hi => ?_⟩
    have P := (pr l i hl (by rw [m1, z111] at hi; exact hi)).1
    rw [fs.2 41 (fun h => h41 h.symm), (m3 i hi).2]
    exact P
  · rw [if_neg c, if_neg c]
    show wt_HH (some ((0 : Int32), s1)) (if ((0 : Int32), z1).1 = 0 then some ((0 : Int32), ((0 : Int32), z1).2) else wt_it (wp_md_isPrinted_B32 n x1) n ((0 : Int32), ((0 : Int32), z1).2)) _
    rw [if_pos (show ((0 : Int32), z1).1 = 0 from rfl)]
    refine wt_HH_some ⟨⟨rfl, Or.inl rfl⟩, ⟨f1.1, fun i hi => f1.2 i (fun h => hi (Or.inr h))⟩, sk1, fun l i hl hi => ?_⟩
    show (wt_ga z1 121 (13 * l + i)).toInt ≤ _
    rw [g1.2 121 (by decide)]
    exact Int.le_refl _
end WTQ2
-- 96m.sort.lean.txt
section WTQ3
/-! by weeks: the order in which the class prints -/
def wu_wk (s : wt_St) (x : Int32) : Int := (wt_ga s 46 (Int32.toNatClampNeg x)).toInt
def wu_lx (s : wt_St) (x y : Int32) : Prop := wu_wk s x < wu_wk s y ∨ (wu_wk s x = wu_wk s y ∧ x.toInt < y.toInt)
def wu_so (s : wt_St) (o : Nat → Int32) (v : Nat) : Prop := (∀ i, i < v → 0 ≤ (o i).toInt ∧ (o i).toInt < (v : Int)) ∧ (∀ i j, i < j → j < v → wu_lx s (o i) (o j)) ∧ ∀ w, w < v → ∃ i, i < v ∧ (o i).toInt = (w : Int)
theorem wu_so_in {s : wt_St} {o p : Nat → Int32} {v i : Nat} {x : Int32} (h : wu_so s o v) (hx : x.toInt = (v : Int)) (hi : i ≤ v) (p1 : ∀ j, j < i → p j = o j) (p2 : p i = x) (p3 : ∀ j, i ≤ j → j < v → p (j + 1) = o j) (k1 : 0 < i → wu_wk s (o (i - 1)) ≤ wu_wk s x) (k2 : ∀ j, i ≤ j → j < v → wu_wk s x < wu_wk s (o j)) : wu_so s p (v + 1) := by
  obtain ⟨h1, h2, h3⟩ := h
  have p3' : ∀ j, i < j → j < v + 1 → p j = o (j - 1) := fun j a b => by
    have := p3 (j - 1) (by omega) (by omega)
    rw [show j - 1 + 1 = j by omega] at this
    exact this
  have K1 : ∀ j, j < i → wu_wk s (o j) ≤ wu_wk s x := fun j hj => by
    have := k1 (by omega)
    by_cases e : j = i - 1
    · rw [e]; exact this
    · rcases h2 j (i - 1) (by omega) (by omega) with q | ⟨q, -⟩ <;> omega
  refine ⟨fun j hj => ?_, fun j j' hj hj' => ?_, fun w hw => ?_⟩
  · rcases Nat.lt_trichotomy j i with c | c | c
    · rw [p1 j c]
      have := h1 j (by omega)
      omega
    · rw [c, p2]
      omega
    · rw [p3' j c hj]
      have := h1 (j - 1) (by omega)
      omega
  · rcases Nat.lt_trichotomy j' i with c | c | c
    · rw [p1 j' c, p1 j (by omega)]
      exact h2 j j' hj (by omega)
    · rw [c, p2, p1 j (by omega)]
      have a := K1 j (by omega)
      have b := h1 j (by omega)
      by_cases e : wu_wk s (o j) = wu_wk s x
      · exact Or.inr ⟨e, by omega⟩
      · exact Or.inl (by omega)
    · rw [p3' j' c hj']
      rcases Nat.lt_trichotomy j i with d | d | d
      · rw [p1 j d]
        exact h2 j (j' - 1) (by omega) (by omega)
      · rw [d, p2]
        exact Or.inl (k2 (j' - 1) (by omega) (by omega))
      · rw [p3' j d (by omega)]
        exact h2 (j - 1) (j' - 1) (by omega) (by omega)
  · by_cases e : w = v
    · exact ⟨i, by omega, by rw [p2, e]; exact hx⟩
    · obtain ⟨j, j1, j2⟩ := h3 w (by omega)
      by_cases c : j < i
      · exact ⟨j, by omega, by rw [p1 j c]; exact j2⟩
      · exact ⟨j + 1, by omega, by rw [p3 j (by omega) j1]; exact j2⟩
set_option maxHeartbeats 2000000 in
theorem wh_sort (n : Nat) (hn : 4294967297 < n) {s : wt_St} {W : Nat} (hW : (wt_gf s 39 8).toInt = (W : Int)) (h10 : W ≤ 10) : wt_H (wp_wk_sortByWeek n s) (fun q => wt_fr (fun _ _ => False) (fun i => i = 99) s q ∧ wu_so s (wt_ga q 99) W) := by
  have k0 : (0 : Int32).toInt = 0 := by decide
  have k1 : (1 : Int32).toInt = 1 := by decide
  unfold wp_wk_sortByWeek
  refine wt_H_it (fun t : Int32 × wt_St => (0 ≤ t.1.toInt ∧ t.1.toInt ≤ (W : Int)) ∧ wt_fr (fun _ _ => False) (fun i => i = 99) s t.2 ∧ wu_so s (wt_ga t.2 99) (Int32.toNatClampNeg t.1)) (fun K t I hK => ?_) n _ ⟨⟨by show 0 ≤ ((0 : Int32)).toInt; omega, by show ((0 : Int32)).toInt ≤ _; omega⟩, wt_fr.rf, by show wu_so s (wt_ga s 99) (Int32.toNatClampNeg (0 : Int32)); rw [wt_tn0]; exact ⟨fun i hi => absurd hi (by omega), fun i j _ hj => absurd hj (by omega), fun w hw => absurd hw (by omega)⟩⟩
  obtain ⟨⟨i0, i1⟩, f, so⟩ := I
  have et := wt_tnI i0
  unfold wp_wk_sortByWeek_B2
  rw [f.1 39 8 (fun h => h)]
  refine wt_H_if (fun c => ?_) (fun c => ?_)
  · have c' := wt_cle c
    refine wt_H_some ⟨f, ?_⟩
    rw [show W = Int32.toNatClampNeg t.1 by omega]
    exact so
  · have c' := wt_ncle c
    have ei := wt_i1 (c := t.1) (by omega)
    obtain ⟨v, hv⟩ : ∃ v : Nat, v = Int32.toNatClampNeg t.1 := ⟨_, rfl⟩
    rw [← hv] at so
    refine wt_H_bh (wh_look n hn (k := v) (by omega) (by rw [show wt_ln 46 = 10 from by decide]; omega)) (fun q2 h2 => ?_)
    subst h2
    dsimp only
    have ew : (wt_ga t.2 46 v).toInt = wu_wk s t.1 := by
      unfold wu_wk
      rw [f.2 46 (by decide), hv]
    refine wt_H_it (fun p : Int32 × wt_St => (0 ≤ p.1.toInt ∧ p.1.toInt ≤ (v : Int)) ∧ wt_fr (fun _ _ => False) (fun i => i = 99) s p.2 ∧ (∀ j : Nat, (j : Int) < p.1.toInt → wt_ga p.2 99 j = wt_ga t.2 99 j) ∧ ∀ j : Nat, p.1.toInt ≤ (j : Int) → j < v → wt_ga p.2 99 (j + 1) = wt_ga t.2 99 j ∧ wu_wk s t.1 < wu_wk s (wt_ga t.2 99 j)) (fun K2 p J hK2 => ?_) n _ ⟨⟨i0, by show t.1.toInt ≤ _; omega⟩, f, fun _ _ => rfl, fun j h1 h2 => absurd (show t.1.toInt ≤ (j : Int) from h1) (by omega)⟩
    obtain ⟨⟨j0, j1⟩, fp, j2, j3⟩ := J
    have ep := wt_tnI j0
    have PUT : (0 < p.1.toInt → wu_wk s (wt_ga t.2 99 (Int32.toNatClampNeg p.1 - 1)) ≤ wu_wk s t.1) → wt_H (wp_wk_sortByWeek_B79 n t.1 p.1 K p.2) (fun q => wt_fr (fun _ _ => False) (fun i => i = 99) s q ∧ wu_so s (wt_ga q 99) W) := fun hle => by
      unfold wp_wk_sortByWeek_B79
      refine wt_H_bh (wh_put n (k := Int32.toNatClampNeg p.1) (by omega) (by rw [show wt_ln 99 = 10 from by decide]; omega)) (fun q4 ε => ?_)
      refine hK _ ⟨⟨by show 0 ≤ (t.1 + (1 : Int32)).toInt; omega, by show (t.1 + (1 : Int32)).toInt ≤ _; omega⟩, fp.sa ε rfl, ?_⟩
      show wu_so s (wt_ga q4 99) (Int32.toNatClampNeg (t.1 + (1 : Int32)))
      have e1 := wt_tnI (x := t.1 + (1 : Int32)) (by omega)
      rw [show Int32.toNatClampNeg (t.1 + (1 : Int32)) = v + 1 by omega]
      exact wu_so_in so (x := t.1) (i := Int32.toNatClampNeg p.1) (by omega) (by omega) (fun j hj => (wt_w_sa ε j (by omega)).trans (j2 j (by omega))) (wt_v_sa ε) (fun j a b => (wt_w_sa ε (j + 1) (by omega)).trans (j3 j (by omega) b).1) (fun h => hle (by omega)) (fun j a b => (j3 j (by omega) b).2)
    unfold wp_wk_sortByWeek_B27
    refine wt_H_if (fun d => ?_) (fun d => ?_)
    · have d' := wt_cle d
      exact PUT (fun h => by omega)
    · have d' := wt_ncle d
      have es := wt_subE (x := p.1) (y := (1 : Int32)) (by omega) (by omega)
      have l99 : wt_ln 99 = 10 := by decide
      refine wt_H_bh (wh_look n hn (k := Int32.toNatClampNeg p.1 - 1) (by omega) (by omega)) (fun q5 h5 => ?_)
      subst h5
      dsimp only
      rw [j2 (Int32.toNatClampNeg p.1 - 1) (by omega)]
      have b5 := so.1 (Int32.toNatClampNeg p.1 - 1) (by omega)
      have e5 := wt_tnI b5.1
      refine wt_H_bh (wh_look n hn (k := Int32.toNatClampNeg (wt_ga t.2 99 (Int32.toNatClampNeg p.1 - 1))) e5.symm (by rw [show wt_ln 46 = 10 from by decide]; omega)) (fun q6 h6 => ?_)
      subst h6
      dsimp only
      have e6 : (wt_ga p.2 46 (Int32.toNatClampNeg (wt_ga t.2 99 (Int32.toNatClampNeg p.1 - 1)))).toInt = wu_wk s (wt_ga t.2 99 (Int32.toNatClampNeg p.1 - 1)) := by
        unfold wu_wk
        rw [fp.2 46 (by decide)]
      refine wt_H_if (fun g => ?_) (fun g => ?_)
      · have g' := wt_cle g
        exact PUT (fun _ => by omega)
      · have g' := wt_ncle g
        refine wt_H_bh (wh_look n hn (k := Int32.toNatClampNeg p.1 - 1) (by omega) (by omega)) (fun q8 h8 => ?_)
        subst h8
        dsimp only
        refine wt_H_bh (wh_put n (k := Int32.toNatClampNeg p.1) (by omega) (by omega)) (fun q9 ε => ?_)
        have ed := wt_d1 (c := p.1) (by omega)
        revert ed
        obtain ⟨pm, epm⟩ : ∃ y : Int32, y = p.1 + (-1 : Int32) := ⟨_, rfl⟩
        rw [← epm]
        clear epm
        intro ed
        refine hK2 _ ⟨⟨by show 0 ≤ pm.toInt; omega, by show pm.toInt ≤ _; omega⟩, fp.sa ε rfl, fun j hj => ?_, fun j hj hjv => ?_⟩
        · have hj' : (j : Int) < pm.toInt := hj
          exact (wt_w_sa ε j (by omega)).trans (j2 j (by omega))
        · have hj' : pm.toInt ≤ (j : Int) := hj
          show wt_ga q9 99 (j + 1) = wt_ga t.2 99 j ∧ _
          by_cases e : j = Int32.toNatClampNeg p.1 - 1
          · have ee : j + 1 = Int32.toNatClampNeg p.1 := by omega
            rw [ee, wt_v_sa ε, ← e]
            refine ⟨j2 j (by omega), ?_⟩
            rw [e]
            omega
          · obtain ⟨a, b⟩ := j3 j (by omega) hjv
            exact ⟨(wt_w_sa ε (j + 1) (by omega)).trans a, b⟩
end WTQ3
-- 96n.greedy.lean.txt
section WTQ4
/-! what is wanted, printed by weeks: greedy, said, lost -/
theorem wt_fr.wk {F F2 : Nat → Nat → Prop} {A A2 : Nat → Prop} {s s' : wt_St} (h : wt_fr F A s s') (hF : ∀ i k, F i k → F2 i k) (hA : ∀ i, A i → A2 i) : wt_fr F2 A2 s s' := ⟨fun i k hn => h.1 i k (fun x => hn (hF i k x)), fun i hn => h.2 i (fun x => hn (hA i x))⟩
def wu_fC (s s' : wt_St) : Prop := wt_fr (fun i _ => i = 86) (fun i => i = 40 ∨ (88 ≤ i ∧ i ≤ 100)) s s'
def wu_fR (z z' : wt_St) : Prop := wt_fr (fun i k => i = 108 ∧ k = 54) (fun i => i = 286 ∨ i = 287 ∨ i = 124 ∨ i = 288 ∨ i = 121 ∨ i = 320) z z'
theorem wu_fC_tr {s s1 s2 : wt_St} (h : wu_fC s s1) (h2 : wu_fC s1 s2) : wu_fC s s2 := wt_fr.tr h h2 (fun _ _ h => h) (fun _ h => h)
theorem wu_fR_tr {s s1 s2 : wt_St} (h : wu_fR s s1) (h2 : wu_fR s1 s2) : wu_fR s s2 := wt_fr.tr h h2 (fun _ _ h => h) (fun _ h => h)
/-- what printing needs -/
def wu_BS (a : Nat) (s z : wt_St) : Prop := wt_RI z ∧ wu_SK a s z ∧ wt_TO s z ∧ wu_TX s z ∧ wu_WW s z ∧ wt_gf s 39 9 = wt_gf z 108 26
theorem wu_BS_fr {a b : Nat} {s s' z z' : wt_St} (h : wu_BS a s z) (f : wu_fC s s') (g : wu_fR z z') (r : wt_RI z') (sk : wu_SK b s' z') : wu_BS b s' z' := by
  obtain ⟨h1, h2, h3, h4, h5, h6⟩ := h
  refine ⟨r, sk, wt_TO_fr h3 f g ⟨by decide, by decide⟩ (fun i a b => by (try dsimp only); omega) ⟨by decide, by decide⟩ (fun i a => by (try dsimp only); omega), wu_TX_fr h4 h1 f g (by decide) (fun i a b => by (try dsimp only); omega) ⟨by decide, by decide⟩ (fun i a => by (try dsimp only); omega), ?_, ?_⟩
  · unfold wu_WW
    exact wu_SW_eq h5 (by rw [g.1 108 39 (by decide)]; exact Int.le_refl _) (fun i a b => f.2 i (by (try dsimp only); omega)) (f.1 39 8 (by decide)) (fun i a b => g.2 i (by (try dsimp only); omega)) (g.1 108 40 (by decide))
  · rw [f.1 39 9 (by decide), g.1 108 26 (by decide)]
    exact h6
theorem wu_BS_W {a : Nat} {s z : wt_St} (h : wu_BS a s z) : ∃ W : Nat, W ≤ 10 ∧ (wt_gf s 39 8).toInt = (W : Int) ∧ (wt_gf z 108 40).toInt = (W : Int) ∧ ∀ k, k < W → wt_ga s 46 k = wt_ga z (264 + k) 2 ∧ wt_ga s 47 k = wt_ga z (264 + k) 3 ∧ (0 ≤ (wt_ga s 46 k).toInt ∧ (wt_ga s 46 k).toInt ≤ 99) ∧ (1 ≤ (wt_ga s 47 k).toInt ∧ (wt_ga s 47 k).toInt ≤ 999) := by
  obtain ⟨-, -, -, -, ⟨h1, h2, h3⟩, -⟩ := h
  have e := wt_tnI h2.1
  refine ⟨Int32.toNatClampNeg (wt_gf s 39 8), by omega, by omega, by rw [← h1]; omega, fun k hk => ?_⟩
  obtain ⟨⟨-, -, a, b⟩, -, -, c, d⟩ := h3 k (by omega)
  exact ⟨a, b, c, d⟩
theorem wt_sum_pt {f g : Nat → Int} {j : Nat} {d : Int} : ∀ (m : Nat), (∀ k, k < m → k ≠ j → g k = f k) → j < m → g j = f j + d → wt_sum g m = wt_sum f m + d := by
  intro m
  induction m with
  | zero => intro _ h; omega
  | succ m ih =>
    intro h1 h2 h3
    show wt_sum g m + g m = wt_sum f m + f m + d
    by_cases e : j = m
    · rw [wt_sum_congr m (f := g) (g := f) (fun k hk => h1 k (by omega) (by omega)), ← e, h3]
      omega
    · rw [ih (fun k hk => h1 k (by omega)) (by omega) h3, h1 m (by omega) (fun x => e x.symm)]
      omega
/-- the worth of a set -/
def wu_wo (z : wt_St) (x : Int32) (W : Nat) : Int := wt_sum (fun k => if wu_bb x k = true then (wt_ga z (264 + k) 3).toInt else 0) W
theorem wu_wo_bd {z : wt_St} {x : Int32} {W : Nat} (h : ∀ k, k < W → 0 ≤ (wt_ga z (264 + k) 3).toInt ∧ (wt_ga z (264 + k) 3).toInt ≤ 999) : 0 ≤ wu_wo z x W ∧ wu_wo z x W ≤ 999 * W := wt_sum_bd (f := fun k => if wu_bb x k = true then (wt_ga z (264 + k) 3).toInt else 0) (c := 999) W (fun k hk => by
  show 0 ≤ (if wu_bb x k = true then (wt_ga z (264 + k) 3).toInt else 0) ∧ (if wu_bb x k = true then (wt_ga z (264 + k) 3).toInt else 0) ≤ 999
  have := h k hk
  split <;> omega)
theorem wu_wo_set {z : wt_St} {x : Int32} {W j : Nat} (hW : W ≤ 10) (hj : j < W) (h : wu_bb x j = false) : wu_wo z (x ||| ((1 : Int32) <<< (nI j &&& 31))) W = wu_wo z x W + (wt_ga z (264 + j) 3).toInt := by
  unfold wu_wo
  refine wt_sum_pt (j := j) W (fun k hk hn => ?_) hj ?_
  · show (if wu_bb (x ||| ((1 : Int32) <<< (nI j &&& 31))) k = true then (wt_ga z (264 + k) 3).toInt else 0) = if wu_bb x k = true then (wt_ga z (264 + k) 3).toInt else 0
    rw [wu_bb_set (by omega) (by omega), decide_eq_false hn, Bool.or_false]
  · show (if wu_bb (x ||| ((1 : Int32) <<< (nI j &&& 31))) j = true then (wt_ga z (264 + j) 3).toInt else 0) = (if wu_bb x j = true then (wt_ga z (264 + j) 3).toInt else 0) + (wt_ga z (264 + j) 3).toInt
    rw [wu_bb_set (by omega) (by omega), decide_eq_true rfl, Bool.or_true, h, if_pos rfl, if_neg (by decide)]
    omega
theorem wh_worthOf (n : Nat) {x : Int32} {z : wt_St} {W : Nat} (hW : (wt_gf z 108 40).toInt = (W : Int)) (h10 : W ≤ 10) (h : ∀ k, k < W → 0 ≤ (wt_ga z (264 + k) 3).toInt ∧ (wt_ga z (264 + k) 3).toInt ≤ 999) : wt_H (wp_md_worthOf n x z) (fun q => q.2 = z ∧ q.1.toInt = wu_wo z x W) := by
  have k0 : (0 : Int32).toInt = 0 := by decide
  unfold wp_md_worthOf
  refine wt_H_it (fun t : Int32 × Int32 × wt_St => t.2.2 = z ∧ (0 ≤ t.2.1.toInt ∧ t.2.1.toInt ≤ (W : Int)) ∧ t.1.toInt = wu_wo z x (Int32.toNatClampNeg t.2.1)) (fun K t I hK => ?_) n _ ⟨rfl, ⟨by show 0 ≤ ((0 : Int32)).toInt; omega, by show ((0 : Int32)).toInt ≤ _; omega⟩, by show ((0 : Int32)).toInt = wu_wo z x (Int32.toNatClampNeg (0 : Int32)); rw [wt_tn0, k0]; rfl⟩
  obtain ⟨i0, ⟨i1, i2⟩, i3⟩ := I
  have et := wt_tnI i1
  unfold wp_md_worthOf_B4
  rw [i0]
  refine wt_H_if (fun c => ?_) (fun c => ?_)
  · have c' := wt_cle c
    refine wt_H_some ⟨rfl, ?_⟩
    show t.1.toInt = _
    rw [i3, show Int32.toNatClampNeg t.2.1 = W by omega]
  · have c' := wt_ncle c
    have ei := wt_i1 (c := t.2.1) (by omega)
    have en : Int32.toNatClampNeg (t.2.1 + (1 : Int32)) = Int32.toNatClampNeg t.2.1 + 1 := by have := wt_tnI (x := t.2.1 + (1 : Int32)) (by omega); omega
    have e3 : Int32.toNatClampNeg (3 : Int32) = 3 := by decide
    have b := wu_wo_bd (z := z) (x := x) (W := Int32.toNatClampNeg t.2.1) (fun k hk => h k (by omega))
    have hk := h (Int32.toNatClampNeg t.2.1) (by omega)
    have B : ∀ y : Int32, y.toInt = (if wu_bb x (Int32.toNatClampNeg t.2.1) = true then (wt_ga z (264 + Int32.toNatClampNeg t.2.1) 3).toInt else 0) → wt_H (wp_md_worthOf_B34 n x t.2.1 K t.1 y z) (fun q => q.2 = z ∧ q.1.toInt = wu_wo z x W) := fun y hy => by
      have by2 : 0 ≤ y.toInt ∧ y.toInt ≤ 999 := by
        rw [hy]
        split <;> omega
      have ea := wt_addE (x := t.1) (y := y) (by omega) (by omega)
      unfold wp_md_worthOf_B34
      refine hK _ ⟨rfl, ⟨by show 0 ≤ (t.2.1 + (1 : Int32)).toInt; omega, by show (t.2.1 + (1 : Int32)).toInt ≤ _; omega⟩, ?_⟩
      show (t.1 + y).toInt = wu_wo z x (Int32.toNatClampNeg (t.2.1 + (1 : Int32)))
      rw [en, ea, i3, hy]
      rfl
    have ent : t.2.1 = nI (Int32.toNatClampNeg t.2.1) := wt_nIt i1
    by_cases d : wu_bt x t.2.1
    · rw [if_neg (show ¬ ((x >>> (t.2.1 &&& 31)) &&& (1 : Int32)) = (1 : Int32) from fun e => by
        have d' : ((x >>> (t.2.1 &&& (31 : Int32))) &&& (1 : Int32)) = 0 := d
        rw [d'] at e
        exact absurd e (by decide))]
      rw [ent] at d
      exact B 0 (by rw [(wu_bt_bb (by omega)).mp d, if_neg (by decide)]; exact k0)
    · have d2 : ¬ wu_bt x (nI (Int32.toNatClampNeg t.2.1)) := by rw [← ent]; exact d
      have d3 := wu_bt_1 (by omega) d2
      rw [← ent] at d3
      rw [if_pos d3, e3]
      refine wt_H_gd (fun _ => wt_H_gd (fun _ => B _ ?_))
      have hb : wu_bb x (Int32.toNatClampNeg t.2.1) = true := by
        cases hb : wu_bb x (Int32.toNatClampNeg t.2.1)
        · exact absurd ((wu_bt_bb (by omega)).mpr hb) d2
        · rfl
      rw [hb, if_pos rfl]
/-- one after the other -/
noncomputable def wu_CS (st : Nat → wt_St → Option wt_St) (s : wt_St) : Nat → Option wt_St
  | 0 => some s
  | i + 1 => (wu_CS st s i).bind (fun q => st i q)
noncomputable def wu_ZS (n : Nat) (x : Int32) (u : Int32 × wt_St) : Option (Int32 × wt_St) := (wp_md_isPrinted n x u.2).bind (fun q => some (if q.1 = 0 then u.1 else u.1 ||| ((1 : Int32) <<< (x &&& 31)), q.2))
noncomputable def wu_CZ (n : Nat) (o : Nat → Int32) (z : wt_St) : Nat → Option (Int32 × wt_St)
  | 0 => some ((0 : Int32), z)
  | i + 1 => (wu_CZ n o z i).bind (fun u => wu_ZS n (o i) u)
/-- how both stand after so many -/
def wu_G (W : Nat) (s z : wt_St) (o : Nat → Int32) (i : Nat) (q : wt_St) (y : Int32 × wt_St) : Prop := wu_SK 98 q y.2 ∧ wt_fr (fun i _ => i = 86) (fun i => i = 98 ∨ i = 100) s q ∧ (wu_fR z y.2 ∧ wt_RI y.2 ∧ ∀ c, wt_ga y.2 124 c = wt_ga z 124 c) ∧ (wt_gf q 86 9 = y.1 ∧ (wt_gf q 86 8).toInt = wu_wo z y.1 W) ∧ ∀ k, k < 32 → wu_bb y.1 k = true → ∃ j, j < i ∧ (o j).toInt = (k : Int)
theorem wu_so_inj {s : wt_St} {o : Nat → Int32} {W i j : Nat} (h : wu_so s o W) (hi : i < W) (hj : j < W) (e : (o i).toInt = (o j).toInt) : i = j := by
  have E : o i = o j := wt_eqI e
  rcases Nat.lt_trichotomy i j with c | c | c
  · rcases h.2.1 i j c hj with d | ⟨-, d⟩
    · rw [E] at d; omega
    · omega
  · exact c
  · rcases h.2.1 j i c hi with d | ⟨-, d⟩
    · rw [E] at d; omega
    · omega
set_option maxHeartbeats 2000000 in
theorem wr_step (n : Nat) (hn : 4294967297 < n) {W i : Nat} {s z q : wt_St} {y : Int32 × wt_St} {o : Nat → Int32} (h10 : W ≤ 10) (bs : wu_BS 98 s z) (hW : (wt_gf z 108 40).toInt = (W : Int)) (so : wu_so s o W) (hi : i < W) (G : wu_G W s z o i q y) : wt_HH (wp_wk_printNext n (o i) q) (wu_ZS n (o i) y) (fun q' y' => wu_G W s z o (i + 1) q' y' ∧ ∀ l j : Nat, l < 26 → (j : Int) < (wt_ga z 111 l).toInt → (wt_ga y'.2 121 (13 * l + j)).toInt ≤ (wt_ga y.2 121 (13 * l + j)).toInt) := by
  obtain ⟨g1, g2, ⟨g3, g4, g5⟩, ⟨g6, g7⟩, g8⟩ := G
  have bs1 : wu_BS 98 q y.2 := wu_BS_fr bs (g2.wk (fun _ _ h => h) (fun i h => by omega)) g3 g4 g1
  obtain ⟨b1, b2, b3, b4, b5, b6⟩ := bs1
  have ob := so.1 i hi
  have eo := wt_tnI ob.1
  have hW1 : (wt_gf y.2 108 40).toInt = (W : Int) := by rw [g3.1 108 40 (by decide)]; exact hW
  obtain ⟨W', W1, W2, W3, W4⟩ := wu_BS_W bs
  have eW : W' = W := by omega
  rw [eW] at W4
  obtain ⟨j, hj⟩ : ∃ j : Nat, j = Int32.toNatClampNeg (o i) := ⟨_, rfl⟩
  have ej : o i = nI j := by rw [hj]; exact wt_nIt ob.1
  have wb : ∀ k, k < W → 0 ≤ (wt_ga z (264 + k) 3).toInt ∧ (wt_ga z (264 + k) 3).toInt ≤ 999 := fun k hk => by
    have := W4 k hk
    rw [← this.2.1]
    omega
  unfold wp_wk_printNext wu_ZS
  refine wt_HH_b (wr_printOne n hn (a := 98) (w := j) (by decide) (by decide) b1 b2 b3 b4 b5 b6 (by omega) (by omega)) (fun q1 y1 h => ?_)
  obtain ⟨⟨e1, e2⟩, f1, f2, r2, sk2, a2, le2⟩ := h
  have F : wt_fr (fun i _ => i = 86) (fun i => i = 98 ∨ i = 100) s q1.2 := wt_fr.tr g2 f1 (fun _ _ h => h.elim) (fun _ h => h)
  have GR : wu_fR z y1.2 := wu_fR_tr g3 (f2.wk (fun _ _ h => by omega) (fun _ h => by omega))
  have m111 : ∀ l, wt_ga y.2 111 l = wt_ga z 111 l := g3.2 111 (by decide)
  have LE : ∀ l j : Nat, l < 26 → (j : Int) < (wt_ga z 111 l).toInt → (wt_ga y1.2 121 (13 * l + j)).toInt ≤ (wt_ga y.2 121 (13 * l + j)).toInt := fun l j hl hj => le2 l j hl (by rw [m111]; exact hj)
  have A : ∀ c, wt_ga y1.2 124 c = wt_ga z 124 c := fun c => (a2 c).trans (g5 c)
  rw [e1]
  rcases e2 with e2 | e2
  · rw [if_pos e2, if_pos e2]
    exact wt_HH_some ⟨⟨sk2, F, ⟨GR, r2, A⟩, ⟨by rw [f1.1 86 9 (fun h => h)]; exact g6, by rw [f1.1 86 8 (fun h => h)]; exact g7⟩, fun k hk hb => by
      obtain ⟨j', c1, c2⟩ := g8 k hk hb
      exact ⟨j', by omega, c2⟩⟩, LE⟩
  · rw [if_neg (show ¬ y1.1 = 0 by rw [e2]; decide), if_neg (show ¬ y1.1 = 0 by rw [e2]; decide)]
    refine wt_HH_l (wh_look n hn (k := j) (by omega) (by rw [show wt_ln 47 = 10 from by decide]; omega)) (fun q3 h3 => ?_)
    subst h3
    dsimp only
    have w47 : wt_ga q1.2 47 j = wt_ga z (264 + j) 3 := by
      rw [F.2 47 (by decide)]
      exact (W4 j (by omega)).2.1
    rw [w47]
    obtain ⟨s1, ε1⟩ : ∃ o : wt_St, o = wt_sf q1.2 86 8 ((wt_gf q1.2 86 8) + wt_ga z (264 + j) 3) := ⟨_, rfl⟩
    rw [← ε1]
    have d1 := wt_fr_sf ε1
    obtain ⟨s2, ε2⟩ : ∃ oo : wt_St, oo = wt_sf s1 86 9 ((wt_gf s1 86 9) ||| ((1 : Int32) <<< (o i &&& 31))) := ⟨_, rfl⟩
    rw [← ε2]
    have d2 := wt_fr_sf ε2
    have v8 : wt_gf s2 86 8 = (wt_gf q 86 8) + wt_ga z (264 + j) 3 := by
      rw [d2.1 86 8 (by decide), wt_v_sf ε1, f1.1 86 8 (fun h => h)]
    have v9 : wt_gf s2 86 9 = y.1 ||| ((1 : Int32) <<< (o i &&& 31)) := by
      rw [wt_v_sf ε2, d1.1 86 9 (by decide), f1.1 86 9 (fun h => h), g6]
    have fresh : wu_bb y.1 j = false := by
      cases hb : wu_bb y.1 j
      · rfl
      · obtain ⟨j', c1, c2⟩ := g8 j (by omega) hb
        have := wu_so_inj so (show j' < W by omega) hi (by omega)
        omega
    have wbd := wu_wo_bd (x := y.1) (W := W) wb
    have wj := wb j (by omega)
    have ea := wt_addE (x := wt_gf q 86 8) (y := wt_ga z (264 + j) 3) (by omega) (by omega)
    refine wt_HH_some ⟨⟨?_, ?_, ⟨GR, r2, A⟩, ⟨v9, ?_⟩, fun k hk hb => ?_⟩, LE⟩
    · exact wu_SK_fr sk2 (wt_fr.tr (d1.wk (F2 := fun i _ => i = 86) (fun _ _ h => h.1) (fun _ h => h)) d2 (fun _ _ h => h.1) (fun _ h => h)) (wt_fr.rf (F := fun _ _ => False) (A := fun _ => False)) ⟨fun h => h, fun h => h, fun h => h⟩ ⟨fun h => h, fun h => h, fun h => h⟩
    · exact wt_fr.tr (wt_fr.tr F d1 (fun _ _ h => h.1) (fun _ h => h.elim)) d2 (fun _ _ h => h.1) (fun _ h => h.elim)
    · show (wt_gf s2 86 8).toInt = wu_wo z (y.1 ||| ((1 : Int32) <<< (o i &&& 31))) W
      rw [v8, ea, g7, ej, wu_wo_set h10 (by omega) fresh]
    · have hb' : wu_bb (y.1 ||| ((1 : Int32) <<< (o i &&& 31))) k = true := hb
      rw [ej, wu_bb_set (by omega) hk] at hb'
      by_cases e : k = j
      · exact ⟨i, by omega, by omega⟩
      · rw [decide_eq_false e, Bool.or_false] at hb'
        obtain ⟨j', c1, c2⟩ := g8 k hk hb'
        exact ⟨j', by omega, c2⟩
theorem wr_chain (n : Nat) {W : Nat} {s z : wt_St} {o : Nat → Int32} {st : Nat → wt_St → Option wt_St} (h0 : wu_G W s z o 0 s ((0 : Int32), z)) (hs : ∀ i q y, i < W → wu_G W s z o i q y → wt_HH (st i q) (wu_ZS n (o i) y) (fun q' y' => wu_G W s z o (i + 1) q' y')) : ∀ i, i ≤ W → wt_HH (wu_CS st s i) (wu_CZ n o z i) (wu_G W s z o i) := by
  intro i
  induction i with
  | zero => exact fun _ => wt_HH_some h0
  | succ i ih =>
    intro hi
    unfold wu_CS wu_CZ
    exact wt_HH_b (ih (by omega)) (fun q y G => hs i q y (by omega) G)
theorem wu_cnt (P : Nat → Prop) : ∀ W : Nat, (∀ i j, i < j → j < W → P j → P i) → ∃ c, c ≤ W ∧ (∀ j, j < c → P j) ∧ ∀ j, c ≤ j → j < W → ¬ P j := by
  intro W
  induction W with
  | zero => exact fun _ => ⟨0, by omega, fun j h => absurd h (by omega), fun j _ h => absurd h (by omega)⟩
  | succ W ih =>
    intro h
    by_cases p : P W
    · refine ⟨W + 1, by omega, fun j hj => ?_, fun j h1 h2 => absurd h2 (by omega)⟩
      by_cases e : j = W
      · rw [e]; exact p
      · exact h j W (by omega) (by omega) p
    · obtain ⟨c, c1, c2, c3⟩ := ih (fun i j a b => h i j a (by omega))
      refine ⟨c, by omega, c2, fun j h1 h2 => ?_⟩
      by_cases e : j = W
      · rw [e]; exact p
      · exact c3 j h1 (by omega)
theorem wu_cnt_wk {s : wt_St} {o : Nat → Int32} {W : Nat} (so : wu_so s o W) (x : Int) : ∃ c, c ≤ W ∧ (∀ j, j < c → wu_wk s (o j) < x) ∧ ∀ j, c ≤ j → j < W → x ≤ wu_wk s (o j) := by
  obtain ⟨c, c1, c2, c3⟩ := wu_cnt (fun j => wu_wk s (o j) < x) W (fun i j hi hj p => by
    have p' : wu_wk s (o j) < x := p
    show wu_wk s (o i) < x
    rcases so.2.1 i j hi hj with h | ⟨h, -⟩ <;> omega)
  exact ⟨c, c1, c2, fun j a b => Int.not_lt.mp (c3 j a b)⟩
theorem wh_CZ_fr (n : Nat) (hn : 4294967297 < n) {W : Nat} {z : wt_St} {o : Nat → Int32} (r : wt_RI z) (hW : (wt_gf z 108 40).toInt = (W : Int)) (ho : ∀ i, i < W → 0 ≤ (o i).toInt ∧ (o i).toInt < (W : Int)) : ∀ i, i ≤ W → wt_H (wu_CZ n o z i) (fun u => wu_fR z u.2 ∧ wt_RI u.2) := by
  intro i
  induction i with
  | zero => exact fun _ => wt_H_some ⟨wt_fr.rf, r⟩
  | succ i ih =>
    intro hi
    unfold wu_CZ wu_ZS
    refine wt_H_bh (ih (by omega)) (fun u hu => ?_)
    obtain ⟨h1, h2⟩ := hu
    have hh := ho i (by omega)
    refine wt_H_bh (wq_md_isPrinted n hn (o i) u.2 h2 hh.1 (by rw [h1.1 108 40 (by decide), hW]; exact hh.2)).h (fun q hq => ?_)
    exact wt_H_some ⟨wu_fR_tr h1 (hq.1.wk (fun _ _ h => by omega) (fun _ h => by omega)), hq.2⟩
theorem wt_H_self {α : Type} (p : Option α) : wt_H p (fun a => p = some a) := fun _ e => e
theorem wu_all_bits : ∀ W, W < 11 → ∀ k, k < W → ¬ ((((((1 : Int32) <<< (nI W &&& 31)) - (1 : Int32)) >>> (nI k &&& 31)) &&& (1 : Int32)) = 0) := by decide +kernel
set_option maxHeartbeats 2000000 in
theorem wh_prints (n : Nat) (hn : 4294967297 < n) {W c : Nat} {x3 : Int32} {s z : wt_St} {o : Nat → Int32} (so : wu_so s o W) (h10 : W ≤ 10) (hW : (wt_gf z 108 40).toInt = (W : Int)) (hw : ∀ k, k < W → wt_ga s 46 k = wt_ga z (264 + k) 2 ∧ 0 ≤ (wt_ga s 46 k).toInt) (r : wt_RI z) (p0 : 0 ≤ x3.toInt) (c0 : c ≤ W) (c1 : ∀ j, j < c → wu_wk s (o j) < x3.toInt) (c2 : ∀ j, c ≤ j → j < W → x3.toInt ≤ wu_wk s (o j)) : wt_H (wp_md_prints n (((1 : Int32) <<< ((wt_gf z 108 40) &&& 31)) - (1 : Int32)) (1 : Int32) x3 z) (fun q => wu_CZ n o z c = some q) := by
  have k0 : (0 : Int32).toInt = 0 := by decide
  have e2 : Int32.toNatClampNeg (2 : Int32) = 2 := by decide
  have fr := wh_CZ_fr n hn r hW so.1
  have e40 : wt_gf z 108 40 = nI W := wt_eqI (by rw [hW, nI_toInt (by omega)])
  unfold wp_md_prints
  refine wt_H_it (fun t : Int32 × Int32 × wt_St => (0 ≤ t.2.1.toInt ∧ t.2.1.toInt ≤ x3.toInt) ∧ ∃ d, d ≤ W ∧ wu_CZ n o z d = some (t.1, t.2.2) ∧ (∀ j, j < d → wu_wk s (o j) < t.2.1.toInt) ∧ ∀ j, d ≤ j → j < W → t.2.1.toInt ≤ wu_wk s (o j)) (fun K t I hK => ?_) n _ ⟨⟨by show 0 ≤ ((0 : Int32)).toInt; omega, by show ((0 : Int32)).toInt ≤ _; omega⟩, 0, by omega, rfl, fun j hj => absurd hj (by omega), fun j _ hj => by
    have b := so.1 j hj
    have e := wt_tnI b.1
    show ((0 : Int32)).toInt ≤ (wt_ga s 46 (Int32.toNatClampNeg (o j))).toInt
    rw [k0]
    exact (hw (Int32.toNatClampNeg (o j)) (by omega)).2⟩
  obtain ⟨⟨i0, i1⟩, d, d0, d1, d2, d3⟩ := I
  unfold wp_md_prints_B6
  refine wt_H_if (fun cc => ?_) (fun cc => ?_)
  · have cc' := wt_cle cc
    refine wt_H_some ?_
    have e : d = c := by
      rcases Nat.lt_trichotomy d c with h | h | h
      · have a := c1 d h
        have b := d3 d (Nat.le_refl _) (by omega)
        omega
      · exact h
      · have a := d2 c h
        have b := c2 c (Nat.le_refl _) (by omega)
        omega
    rw [← e]
    exact d1
  · have cc' := wt_ncle cc
    have ei := wt_i1 (c := t.2.1) (by have := wt_bd x3; omega)
    refine wt_H_it (fun u : Int32 × Int32 × wt_St => (0 ≤ u.2.1.toInt ∧ u.2.1.toInt ≤ (W : Int)) ∧ ∃ d, d ≤ W ∧ wu_CZ n o z d = some (u.1, u.2.2) ∧ (∀ j, j < d → wu_wk s (o j) < t.2.1.toInt ∨ (wu_wk s (o j) = t.2.1.toInt ∧ (o j).toInt < u.2.1.toInt)) ∧ ∀ j, d ≤ j → j < W → t.2.1.toInt < wu_wk s (o j) ∨ (wu_wk s (o j) = t.2.1.toInt ∧ u.2.1.toInt ≤ (o j).toInt)) (fun K2 u J hK2 => ?_) n _ ⟨⟨by show 0 ≤ ((0 : Int32)).toInt; omega, by show ((0 : Int32)).toInt ≤ _; omega⟩, d, d0, d1, fun j hj => Or.inl (d2 j hj), fun j h1 h2 => by
      have a := d3 j h1 h2
      have b := (so.1 j h2).1
      by_cases e : wu_wk s (o j) = t.2.1.toInt
      · exact Or.inr ⟨e, by show ((0 : Int32)).toInt ≤ _; omega⟩
      · exact Or.inl (by omega)⟩
    obtain ⟨⟨j0, j1⟩, d', d0', d1', d2', d3'⟩ := J
    have eu := wt_tnI j0
    obtain ⟨fu, ru⟩ := fr d' d0' _ d1'
    have fu' : wu_fR z u.2.2 := fu
    unfold wp_md_prints_B15
    rw [fu'.1 108 40 (by decide)]
    refine wt_H_if (fun g => ?_) (fun g => ?_)
    · have g' := wt_cle g
      refine hK _ ⟨⟨by show 0 ≤ (t.2.1 + (1 : Int32)).toInt; omega, by show (t.2.1 + (1 : Int32)).toInt ≤ _; omega⟩, d', d0', d1', fun j hj => ?_, fun j h1 h2 => ?_⟩
      · show wu_wk s (o j) < (t.2.1 + (1 : Int32)).toInt
        rcases d2' j hj with h | h <;> omega
      · show (t.2.1 + (1 : Int32)).toInt ≤ wu_wk s (o j)
        have b := (so.1 j h2).2
        rcases d3' j h1 h2 with h | h <;> omega
    · have g' := wt_ncle g
      have ek := wt_i1 (c := u.2.1) (by omega)
      obtain ⟨k, hk⟩ : ∃ k : Nat, k = Int32.toNatClampNeg u.2.1 := ⟨_, rfl⟩
      have euk : u.2.1 = nI k := by rw [hk]; exact wt_nIt j0
      rw [← hk, e2, fu'.2 (264 + k) (by (try dsimp only); omega)]
      have wkk : ∀ x : Int32, x.toInt = (k : Int) → wu_wk s x = (wt_ga z (264 + k) 2).toInt := fun x hx => by
        unfold wu_wk
        rw [wt_tnN hx, (hw k (by omega)).1]
      unfold wp_md_prints_B77
      refine wt_H_gd (fun _ => wt_H_gd (fun _ => wt_H_if (fun e => ?_) (fun e => ?_)))
      · have e' := wt_ceq e
        rw [euk, e40, if_neg (wu_all_bits W (by omega) k (by omega)), ← euk]
        obtain ⟨j, jW, ej⟩ := so.2.2 k (by omega)
        have wj := wkk _ ej
        have ejd : j = d' := by
          rcases Nat.lt_trichotomy j d' with h | h | h
          · rcases d2' j h with q | q <;> omega
          · exact h
          · rcases d3' d' (Nat.le_refl _) (by omega) with q | q
            · rcases so.2.1 d' j h jW with q2 | q2 <;> omega
            · rcases so.2.1 d' j h jW with q2 | q2 <;> omega
        rw [ejd] at ej jW wj
        have eo : o d' = u.2.1 := wt_eqI (by omega)
        refine wt_H_bh (wt_H_self _) (fun q7 h7 => ?_)
        have CZ1 : wu_CZ n o z (d' + 1) = some (if q7.1 = 0 then u.1 else u.1 ||| ((1 : Int32) <<< (u.2.1 &&& 31)), q7.2) := by
          unfold wu_CZ
          rw [d1']
          show wu_ZS n (o d') (u.1, u.2.2) = _
          unfold wu_ZS
          rw [eo]
          show (wp_md_isPrinted n u.2.1 u.2.2).bind _ = _
          rw [h7]
          rfl
        have N : ∀ w : Int32, wu_CZ n o z (d' + 1) = some (w, q7.2) → wt_H (K2 (w, (u.2.1 + (1 : Int32)), q7.2)) (fun q => wu_CZ n o z c = some q) := fun w hw => by
          refine hK2 _ ⟨⟨by show 0 ≤ (u.2.1 + (1 : Int32)).toInt; omega, by show (u.2.1 + (1 : Int32)).toInt ≤ _; omega⟩, d' + 1, by omega, hw, fun j hj => ?_, fun j h1 h2 => ?_⟩
          · show wu_wk s (o j) < t.2.1.toInt ∨ (wu_wk s (o j) = t.2.1.toInt ∧ (o j).toInt < (u.2.1 + (1 : Int32)).toInt)
            by_cases e : j = d'
            · rw [e]
              exact Or.inr ⟨by omega, by omega⟩
            · rcases d2' j (by omega) with q | q
              · exact Or.inl q
              · exact Or.inr ⟨q.1, by omega⟩
          · show t.2.1.toInt < wu_wk s (o j) ∨ (wu_wk s (o j) = t.2.1.toInt ∧ (u.2.1 + (1 : Int32)).toInt ≤ (o j).toInt)
            rcases so.2.1 d' j (by omega) h2 with q | q
            · exact Or.inl (by omega)
            · exact Or.inr ⟨by omega, by omega⟩
        refine wt_H_if (fun x => ?_) (fun x => ?_)
        · rw [if_pos x] at CZ1
          rw [if_neg (show ¬ (1 : Int32) = 0 by decide)]
          exact N _ CZ1
        · rw [if_neg x] at CZ1
          exact N _ CZ1
      · have e' := wt_nceq e
        refine hK2 _ ⟨⟨by show 0 ≤ (u.2.1 + (1 : Int32)).toInt; omega, by show (u.2.1 + (1 : Int32)).toInt ≤ _; omega⟩, d', d0', d1', fun j hj => ?_, fun j h1 h2 => ?_⟩
        · show wu_wk s (o j) < t.2.1.toInt ∨ (wu_wk s (o j) = t.2.1.toInt ∧ (o j).toInt < (u.2.1 + (1 : Int32)).toInt)
          rcases d2' j hj with q | q
          · exact Or.inl q
          · exact Or.inr ⟨q.1, by omega⟩
        · show t.2.1.toInt < wu_wk s (o j) ∨ (wu_wk s (o j) = t.2.1.toInt ∧ (u.2.1 + (1 : Int32)).toInt ≤ (o j).toInt)
          rcases d3' j h1 h2 with q | q
          · exact Or.inl q
          · refine Or.inr ⟨q.1, ?_⟩
            by_cases x : (o j).toInt = (k : Int)
            · have := wkk _ x
              omega
            · omega
end WTQ4
-- 96o.greedy2.lean.txt
section WTQ5
/-! greedy, said, lost: the calls -/
theorem wh_CS_fr (n : Nat) (hn : 4294967297 < n) {s : wt_St} {o : Nat → Int32} : ∀ i, wt_H (wu_CS (fun i q => wp_wk_printNext n (o i) q) s i) (fun q => wu_fC s q ∧ ∀ j, wt_ga q 99 j = wt_ga s 99 j) := by
  intro i
  induction i with
  | zero => exact wt_H_some ⟨wt_fr.rf, fun _ => rfl⟩
  | succ i ih =>
    unfold wu_CS
    refine wt_H_bh ih (fun q hq => ?_)
    refine (wq_wk_printNext n hn (o i) q).h.imp (fun q' h => ⟨wu_fC_tr hq.1 (h.wk (fun _ _ h => by omega) (fun _ h => by omega)), fun j => (h.2 99 (by decide) j).trans (hq.2 j)⟩)
theorem wh_startGreedy (n : Nat) (hn : 4294967297 < n) {s : wt_St} {W : Nat} (hW : (wt_gf s 39 8).toInt = (W : Int)) (h10 : W ≤ 10) : wt_H (wp_wk_startGreedy n s) (fun q => wu_fC s q ∧ wu_so q (wt_ga q 99) W ∧ (wt_gf q 86 8 = 0 ∧ wt_gf q 86 9 = 0) ∧ ∀ j, j < 312 → wt_ga q 98 j = wt_ga s 40 j) := by
  unfold wp_wk_startGreedy
  refine wt_H_bh (wh_sort n hn hW h10) (fun q1 h1 => ?_)
  obtain ⟨f1, so⟩ := h1
  obtain ⟨s1, ε1⟩ : ∃ o : wt_St, o = wt_sf q1 86 8 (0 : Int32) := ⟨_, rfl⟩
  rw [← ε1]
  obtain ⟨s2, ε2⟩ : ∃ o : wt_St, o = wt_sf s1 86 9 (0 : Int32) := ⟨_, rfl⟩
  rw [← ε2]
  have d1 := wt_fr_sf ε1
  have d2 := wt_fr_sf ε2
  refine wt_H_bh (wh_copyRow n (a := 40) (b := 98) (by decide) (by decide)) (fun q2 h2 => ?_)
  obtain ⟨f2, v2⟩ := h2
  have F2 : wu_fC s s2 := wt_fr.tr (wt_fr.tr (f1.wk (F2 := fun i _ => i = 86) (A2 := fun i => i = 40 ∨ (88 ≤ i ∧ i ≤ 100)) (fun _ _ h => h.elim) (fun _ h => by omega)) d1 (fun _ _ h => h.1) (fun _ h => h.elim)) d2 (fun _ _ h => h.1) (fun _ h => h.elim)
  have F : wu_fC s q2 := wu_fC_tr F2 (f2.wk (fun _ _ h => h.elim) (fun _ h => by omega))
  have e46 : wt_ga q2 46 = wt_ga s 46 := funext (F.2 46 (by decide))
  have e99 : wt_ga q2 99 = wt_ga q1 99 := funext (fun j => by rw [f2.2 99 (by decide), d2.2 99 (fun h => h), d1.2 99 (fun h => h)])
  refine wt_H_some ⟨F, ?_, ⟨by rw [f2.1 86 8 (fun h => h), d2.1 86 8 (by decide), wt_v_sf ε1], by rw [f2.1 86 9 (fun h => h), wt_v_sf ε2]⟩, fun j hj => ?_⟩
  · rw [e99]
    unfold wu_so wu_lx wu_wk
    rw [e46]
    exact so
  · rw [v2 j (by rw [show wt_ln 40 = 312 from by decide]; exact hj), d2.2 40 (fun h => h), d1.2 40 (fun h => h), f1.2 40 (by decide)]
theorem wh_greedyLoop (n : Nat) (hn : 4294967297 < n) {W c : Nat} {x1 : Int32} {s : wt_St} (hW : (wt_gf s 39 8).toInt = (W : Int)) (h10 : W ≤ 10) (so : wu_so s (wt_ga s 99) W) (c0 : c ≤ W) (c1 : ∀ j, j < c → wu_wk s (wt_ga s 99 j) < x1.toInt) (c2 : ∀ j, c ≤ j → j < W → x1.toInt ≤ wu_wk s (wt_ga s 99 j)) : wt_H (wt_it (wp_wk_printGreedily_B6 n x1) n ((0 : Int32), s)) (fun q => wu_CS (fun i q => wp_wk_printNext n (wt_ga s 99 i) q) s c = some q) := by
  have k0 : (0 : Int32).toInt = 0 := by decide
  have fr := wh_CS_fr n hn (s := s) (o := wt_ga s 99)
  refine wt_H_it (fun t : Int32 × wt_St => (0 ≤ t.1.toInt ∧ t.1.toInt ≤ (W : Int)) ∧ ((t.1.toInt ≤ (c : Int) ∧ wu_CS (fun i q => wp_wk_printNext n (wt_ga s 99 i) q) s (Int32.toNatClampNeg t.1) = some t.2) ∨ ((c : Int) ≤ t.1.toInt ∧ wu_CS (fun i q => wp_wk_printNext n (wt_ga s 99 i) q) s c = some t.2))) (fun K t I hK => ?_) n _ ⟨⟨by show 0 ≤ ((0 : Int32)).toInt; omega, by show ((0 : Int32)).toInt ≤ _; omega⟩, Or.inl ⟨by show ((0 : Int32)).toInt ≤ _; omega, by show wu_CS _ s (Int32.toNatClampNeg (0 : Int32)) = some s; rw [wt_tn0]; rfl⟩⟩
  obtain ⟨⟨i0, i1⟩, i2⟩ := I
  have et := wt_tnI i0
  have ft : wu_fC s t.2 ∧ ∀ j, wt_ga t.2 99 j = wt_ga s 99 j := by
    rcases i2 with ⟨-, h⟩ | ⟨-, h⟩
    · exact fr _ _ h
    · exact fr _ _ h
  unfold wp_wk_printGreedily_B6 wp_wk_printGreedily_B46
  rw [ft.1.1 39 8 (by decide)]
  refine wt_H_if (fun g => ?_) (fun g => ?_)
  · have g' := wt_cle g
    refine wt_H_some ?_
    rcases i2 with ⟨a, h⟩ | ⟨-, h⟩
    · rw [show c = Int32.toNatClampNeg t.1 by omega]
      exact h
    · exact h
  · have g' := wt_ncle g
    have ei := wt_i1 (c := t.1) (by omega)
    have en : Int32.toNatClampNeg (t.1 + (1 : Int32)) = Int32.toNatClampNeg t.1 + 1 := by have := wt_tnI (x := t.1 + (1 : Int32)) (by omega); omega
    refine wt_H_bh (wh_look n hn (k := Int32.toNatClampNeg t.1) et.symm (by rw [show wt_ln 99 = 10 from by decide]; omega)) (fun q3 h3 => ?_)
    subst h3
    dsimp only
    rw [ft.2]
    have ob := so.1 (Int32.toNatClampNeg t.1) (by omega)
    have eo := wt_tnI ob.1
    refine wt_H_bh (wh_look n hn (k := Int32.toNatClampNeg (wt_ga s 99 (Int32.toNatClampNeg t.1))) eo.symm (by rw [show wt_ln 46 = 10 from by decide]; omega)) (fun q4 h4 => ?_)
    subst h4
    dsimp only
    have ew : (wt_ga t.2 46 (Int32.toNatClampNeg (wt_ga s 99 (Int32.toNatClampNeg t.1)))).toInt = wu_wk s (wt_ga s 99 (Int32.toNatClampNeg t.1)) := by
      unfold wu_wk
      rw [ft.1.2 46 (by decide)]
    refine wt_H_if (fun d => ?_) (fun d => ?_)
    · have d' := wt_cle d
      have hc : (c : Int) ≤ t.1.toInt := by
        by_cases h : Int32.toNatClampNeg t.1 < c
        · have := c1 _ h
          omega
        · omega
      refine hK _ ⟨⟨by show 0 ≤ (t.1 + (1 : Int32)).toInt; omega, by show (t.1 + (1 : Int32)).toInt ≤ _; omega⟩, Or.inr ⟨by show (c : Int) ≤ (t.1 + (1 : Int32)).toInt; omega, ?_⟩⟩
      rcases i2 with ⟨a, h⟩ | ⟨-, h⟩
      · rw [show c = Int32.toNatClampNeg t.1 by omega]
        exact h
      · exact h
    · have d' := wt_ncle d
      have hc : t.1.toInt < (c : Int) := by
        by_cases h : c ≤ Int32.toNatClampNeg t.1
        · have := c2 _ h (by omega)
          omega
        · omega
      refine wt_H_bh (wt_H_self _) (fun q6 h6 => ?_)
      refine hK _ ⟨⟨by show 0 ≤ (t.1 + (1 : Int32)).toInt; omega, by show (t.1 + (1 : Int32)).toInt ≤ _; omega⟩, Or.inl ⟨by show (t.1 + (1 : Int32)).toInt ≤ _; omega, ?_⟩⟩
      show wu_CS (fun i q => wp_wk_printNext n (wt_ga s 99 i) q) s (Int32.toNatClampNeg (t.1 + (1 : Int32))) = some q6
      rw [en]
      rcases i2 with ⟨-, h⟩ | ⟨a, -⟩
      · show (wu_CS (fun i q => wp_wk_printNext n (wt_ga s 99 i) q) s (Int32.toNatClampNeg t.1)).bind (fun q => wp_wk_printNext n (wt_ga s 99 (Int32.toNatClampNeg t.1)) q) = some q6
        rw [h]
        exact h6
      · omega
theorem wu_bind_eta {α β : Type} (p : Option (α × β)) : (p.bind fun q => some (q.1, q.2)) = p := by
  cases p <;> rfl
/-- what both sides stand at, ahead of the first -/
theorem wu_G_start {W : Nat} {s s1 z z1 : wt_St} (h10 : W ≤ 10) (bs : wu_BS 40 s z) (f : wu_fC s s1) (v0 : wt_gf s1 86 8 = 0 ∧ wt_gf s1 86 9 = 0) (cp : ∀ j, j < 312 → wt_ga s1 98 j = wt_ga s 40 j) (g : wu_fR z z1) (ke : (∀ c, wt_ga z1 124 c = wt_ga z 124 c) ∧ ∀ c, c < 338 → wt_ga z1 121 c = wt_ga z 121 c) (r : wt_RI z1) (o : Nat → Int32) : wu_BS 98 s1 z1 ∧ wu_G W s1 z1 o 0 s1 ((0 : Int32), z1) := by
  have k0 : (0 : Int32).toInt = 0 := by decide
  have sk : wu_SK 98 s1 z1 := fun l hl => by
    obtain ⟨a1, a2, a3⟩ := bs.2.1 l hl
    rw [f.2 5 (by decide), g.2 111 (by decide)]
    refine ⟨a1, a2, fun i hi => ?_⟩
    obtain ⟨b1, b2⟩ := a3 i hi
    rw [cp _ (by omega), f.2 41 (by decide), ke.1, ke.2 _ (by omega)]
    exact ⟨b1, b2⟩
  refine ⟨wu_BS_fr bs f g r sk, sk, wt_fr.rf, ⟨wt_fr.rf, r, fun _ => rfl⟩, ⟨v0.2, ?_⟩, fun k hk hb => ?_⟩
  · show (wt_gf s1 86 8).toInt = wu_wo z1 0 W
    rw [v0.1, k0]
    have := wt_sum_bd (f := fun k => if wu_bb 0 k = true then (wt_ga z1 (264 + k) 3).toInt else 0) (c := 0) W (fun k _ => by
      show 0 ≤ (if wu_bb 0 k = true then (wt_ga z1 (264 + k) 3).toInt else 0) ∧ (if wu_bb 0 k = true then (wt_ga z1 (264 + k) 3).toInt else 0) ≤ 0
      rw [wu_bb_0, if_neg (by decide)]
      omega)
    unfold wu_wo
    omega
  · have hb' : wu_bb 0 k = true := hb
    rw [wu_bb_0] at hb'
    exact absurd hb' (by decide)
set_option maxHeartbeats 2000000 in
theorem wr_greedily (n : Nat) (hn : 4294967297 < n) {x1 : Int32} {s z : wt_St} (bs : wu_BS 40 s z) (p0 : 0 ≤ x1.toInt) : wt_HH (wp_wk_printGreedily n x1 s) (wp_md_greedyAhead n x1 z) (fun q y => wu_SK 98 q y.2 ∧ wu_fC s q ∧ wu_fR z y.2 ∧ wt_RI y.2 ∧ (wt_gf q 86 9 = y.1 ∧ ∀ W : Nat, (wt_gf z 108 40).toInt = (W : Int) → (wt_gf q 86 8).toInt = wu_wo z y.1 W)) := by
  obtain ⟨W, h10, W1, W2, W3⟩ := wu_BS_W bs
  have rz := bs.1
  unfold wp_wk_printGreedily wp_md_greedyAhead
  refine wt_HH_l (wh_startGreedy n hn W1 h10) (fun s1 h1 => ?_)
  obtain ⟨f1, so, v0, cp⟩ := h1
  refine wt_HH_r (wt_H_and (wh_putsR n) (wq_md_puts n hn z rz).h) (fun z1 h2 => ?_)
  obtain ⟨⟨g1, -⟩, -, r1⟩ := h2
  rw [wu_bind_eta]
  have G1 : wu_fR z z1 := g1.wk (fun _ _ h => h.elim) (fun _ h => by omega)
  obtain ⟨bs1, g0⟩ := wu_G_start h10 bs f1 v0 cp G1 ⟨g1.2 124 (by decide), fun c _ => g1.2 121 (by decide) c⟩ r1 (wt_ga s1 99)
  have W1' : (wt_gf s1 39 8).toInt = (W : Int) := by rw [f1.1 39 8 (by decide)]; exact W1
  have W2' : (wt_gf z1 108 40).toInt = (W : Int) := by rw [G1.1 108 40 (by decide)]; exact W2
  obtain ⟨c, c0, c1, c2⟩ := wu_cnt_wk so x1.toInt
  have ch := wr_chain n (W := W) (st := fun i q => wp_wk_printNext n (wt_ga s1 99 i) q) g0 (fun i q y hi G => (wr_step n hn h10 bs1 W2' so hi G).imp (fun q' y' h => h.1)) c c0
  refine wt_HH_of (wh_greedyLoop n hn W1' h10 so c0 c1 c2) (wh_prints n hn so h10 W2' (fun k hk => by
    obtain ⟨a, -, b, -⟩ := W3 k hk
    rw [f1.2 46 (by decide), G1.2 (264 + k) (by (try dsimp only); omega)]
    exact ⟨a, b.1⟩) r1 p0 c0 c1 c2) (fun q y hq hy => ?_)
  obtain ⟨e1, e2, ⟨e3, e4, -⟩, ⟨e5, e6⟩, -⟩ := ch q y hq hy
  refine ⟨e1, wu_fC_tr f1 (e2.wk (fun _ _ h => h) (fun _ h => by omega)), wu_fR_tr G1 e3, e4, e5, fun W' hW' => ?_⟩
  have : W' = W := by omega
  rw [this, e6]
  unfold wu_wo
  refine wt_sum_congr W (fun k hk => ?_)
  show (if wu_bb y.1 k = true then (wt_ga z1 (264 + k) 3).toInt else 0) = if wu_bb y.1 k = true then (wt_ga z (264 + k) 3).toInt else 0
  rw [G1.2 (264 + k) (by (try dsimp only); omega)]
/-- what the calls begin with -/
theorem wu_BS_of {s z : wt_St} (r : wt_RI z) (rl : wu_RL s z) : wu_BS 40 s z := by
  obtain ⟨-, -, to, lc, tx, sc, -⟩ := rl
  exact ⟨r, wu_SK_of lc sc, to, tx, sc.2.1, sc.1.1⟩
/-- the gate of a number between 0 and another -/
theorem wr_gI (n : Nat) {x c K : Int32} {s z0 : wt_St} {C : Nat × Int32 × wt_St → Option (Nat × Int32 × wt_St)} {D : Int32 × wt_St → Option (Int32 × wt_St)} {Q : Nat × Int32 × wt_St → Int32 × wt_St → Prop} (t0 : wt_gf z0 108 0 = 0) (hc : ¬ c = 0) (no : Q (1, 0, s) (0, wt_sf z0 108 0 c)) (yes : 0 ≤ x.toInt → x.toInt ≤ K.toInt → wt_HH (C (0, 0, s)) (D (0, z0)) Q) : wt_HH (if x < 0 then (wp_ap_refuse n (1 : Int32) s).bind (fun q => if q.1 = 0 then C q else some (q.1, 0, q.2.2)) else if x ≤ K then (wp_ap_refuse n (0 : Int32) s).bind (fun q => if q.1 = 0 then C q else some (q.1, 0, q.2.2)) else (wp_ap_refuse n (1 : Int32) s).bind (fun q => if q.1 = 0 then C q else some (q.1, 0, q.2.2))) ((wp_md_in n x (0 : Int32) K z0).bind fun q1 => if q1.1 = 0 then (wp_md_bad n (1 : Int32) c q1.2).bind (fun q3 => if q3.1 = 0 then D q3 else some ((0 : Int32), q3.2)) else (wp_md_bad n (0 : Int32) c q1.2).bind (fun q3 => if q3.1 = 0 then D q3 else some ((0 : Int32), q3.2))) Q := by
  have k0 : (0 : Int32).toInt = 0 := by decide
  have NO : wt_HH ((wp_ap_refuse n (1 : Int32) s).bind (fun q => if q.1 = 0 then C q else some (q.1, 0, q.2.2))) ((wp_md_bad n (1 : Int32) c z0).bind (fun q3 => if q3.1 = 0 then D q3 else some ((0 : Int32), q3.2))) Q := by
    refine wt_HH_l (wh_refuse1 n) (fun q hq => ?_)
    subst hq
    rw [if_neg (show ¬ ((1 : Nat), (0 : Int32), s).1 = 0 by show ¬ ((1 : Nat) = 0); decide)]
    refine wt_HH_r (wh_bad1 n t0 hc) (fun y hy => ?_)
    subst hy
    rw [if_neg (show ¬ ((1 : Int32), wt_sf z0 108 0 c).1 = 0 by show ¬ ((1 : Int32) = 0); decide)]
    exact wt_HH_some no
  refine wt_HH_r (wh_in n) (fun y2 h2 => ?_)
  obtain ⟨e2, b2⟩ := h2
  rw [e2]
  rcases b2 with ⟨d1, d2⟩ | ⟨d1, d2, d3⟩
  · rw [if_pos (show y2.1 = 0 from d1)]
    refine wt_HH_il (fun _ => NO) (fun c => ?_)
    have c' := wt_ncl c
    rw [if_neg (show ¬ x ≤ K from fun h => by have := wt_cle h; omega)]
    exact NO
  · rw [if_neg (show ¬ y2.1 = 0 by rw [d1]; decide), if_neg (show ¬ x < 0 from fun h => by have := wt_clt h; omega), if_pos (show x ≤ K from Int32.le_iff_toInt_le.mpr (by omega))]
    refine wt_HH_l (wh_refuse0 n) (fun q hq => ?_)
    subst hq
    rw [if_pos (show ((0 : Nat), (0 : Int32), s).1 = 0 from rfl)]
    refine wr_b0 n t0 (yes (by omega) (by omega))
theorem wr_greedy (n : Nat) (hn : 4294967297 < n) {x1 : Int32} {s z : wt_St} (v : wt_IV z) (rl : wu_RL s z) : wt_HH (wp_ap_greedy n x1 s) (wp_md_greedy n x1 z) (fun q y => (q.1 = 1 ∧ wt_gf y.2 108 0 = 1) ∨ (q.1 = 0 ∧ wt_gf y.2 108 0 = 0 ∧ q.2.1 = y.1)) := by
  have k100 : (100 : Int32).toInt = 100 := by decide
  unfold wp_ap_greedy wp_md_greedy wp_ap_greedy_B9 wp_ap_greedy_B14 wp_md_greedy_B20
  obtain ⟨z0, ε0⟩ : ∃ o : wt_St, o = wt_sf z 108 0 (0 : Int32) := ⟨_, rfl⟩
  rw [← ε0]
  have g0 := wt_fr_sf ε0
  have t0 : wt_gf z0 108 0 = 0 := wt_v_sf ε0
  have r0 : wt_RI z0 := wt_RI_fno v.1 ε0 (Or.inr (by decide +kernel))
  have bs := wu_BS_of r0 (wu_RL_z0 rl v.1 g0)
  refine wr_gI n t0 (by decide) (Or.inl ⟨rfl, wt_v_sf rfl⟩) (fun _ _ => ?_)
  refine wt_HH_b (wr_greedily n hn bs (by omega)) (fun q y h => ?_)
  obtain ⟨-, -, gy, ry, e9, e8⟩ := h
  refine wt_HH_r (wt_H_and (wh_putsBackR n) (wq_md_putsBack n hn y.2 ry).h) (fun y6 h6 => ?_)
  obtain ⟨⟨g6, -⟩, -, r6⟩ := h6
  have G6 : wu_fR z0 y6 := wu_fR_tr gy (g6.wk (fun _ _ h => h.elim) (fun _ h => by omega))
  have t6 : wt_gf y6 108 0 = 0 := by
    rw [G6.1 108 0 (by decide)]
    exact t0
  refine wt_HH_il (fun c => ?_) (fun c => ?_)
  · rw [if_pos c]
    obtain ⟨W, h10, W1, W2, W3⟩ := wu_BS_W bs
    refine wt_HH_r (wh_worthOf n (x := y.1) (W := W) (by rw [G6.1 108 40 (by decide)]; exact W2) h10 (fun k hk => ?_)) (fun q8 h8 => ?_)
    · have := W3 k hk
      rw [G6.2 (264 + k) (by (try dsimp only); omega), ← this.2.1]
      omega
    · refine wt_HH_some (Or.inr ⟨rfl, ?_, wt_eqI ?_⟩)
      · show wt_gf q8.2 108 0 = 0
        rw [h8.1]
        exact t6
      · show (wt_gf q 86 8).toInt = q8.1.toInt
        rw [h8.2, e8 W W2]
        unfold wu_wo
        refine wt_sum_congr W (fun k hk => ?_)
        show (if wu_bb y.1 k = true then (wt_ga z0 (264 + k) 3).toInt else 0) = if wu_bb y.1 k = true then (wt_ga y6 (264 + k) 3).toInt else 0
        rw [G6.2 (264 + k) (by (try dsimp only); omega)]
  · rw [if_neg c]
    exact wt_HH_some (Or.inr ⟨rfl, t6, e9⟩)
theorem wr_stillSaid (n : Nat) (hn : 4294967297 < n) {w W : Nat} {x1 : Int32} {s z : wt_St} (r : wt_RI z) (sk : wu_SK 98 s z) (tt : wt_tt 20 126 128 130 193 W s z) (hW : W ≤ 60) (hx : x1.toInt = (w : Int)) (hw : w < W) : wt_HH (wp_wk_stillSaid n x1 s) (wp_md_canWord n x1 z) (fun q y => q.1 = y.1 ∧ wt_fr (fun _ _ => False) (fun i => i = 100) s q.2 ∧ wt_fr (fun _ _ => False) (fun i => i = 287) z y.2 ∧ wt_RI y.2) := by
  rw [← wu_bind_eta (wp_md_canWord n x1 z)]
  unfold wp_wk_stillSaid
  exact wr_canW n hn (a := 100) (a2 := 98) (by decide) (by decide) (by decide) (by decide) (by decide) (by decide) r sk tt hW hx hw (fun q y h1 h2 h3 h4 => wt_HH_some ⟨h1, h2, h3, h4⟩)
theorem wr_said (n : Nat) (hn : 4294967297 < n) {x1 x2 : Int32} {s z : wt_St} (v : wt_IV z) (rl : wu_RL s z) : wt_HH (wp_ap_said n x1 x2 s) (wp_md_said n x1 x2 z) (fun q y => (q.1 = 2 ∧ wt_gf y.2 108 0 = 1) ∨ (q.1 = 1 ∧ wt_gf y.2 108 0 = 2) ∨ (q.1 = 0 ∧ wt_gf y.2 108 0 = 0 ∧ q.2.1 = y.1)) := by
  have k100 : (100 : Int32).toInt = 100 := by decide
  unfold wp_ap_said wp_md_said
  obtain ⟨z0, ε0⟩ : ∃ o : wt_St, o = wt_sf z 108 0 (0 : Int32) := ⟨_, rfl⟩
  rw [← ε0]
  have g0 := wt_fr_sf ε0
  have t0 : wt_gf z0 108 0 = 0 := wt_v_sf ε0
  have r0 : wt_RI z0 := wt_RI_fno v.1 ε0 (Or.inr (by decide +kernel))
  have rl0 := wu_RL_z0 rl v.1 g0
  have bs := wu_BS_of r0 rl0
  have hz : 0 ≤ (wt_gf z0 108 28).toInt ∧ (wt_gf z0 108 28).toInt ≤ 60 := wt_Rf6 r0
  obtain ⟨W, G, ⟨w1, w2, w3⟩, -, tt, -⟩ := rl0.2.2.1
  refine wr_gW n (wp_ap_said_B16 n x1 x2) (wp_md_said_B19 n x1 x2) (w1.trans w2.symm) hz (wr_mb1 n t0 (by decide) (Or.inl ⟨rfl, wt_v_sf rfl⟩)) (fun hx0 hx1 => wr_mb0 n t0 ?_)
  dsimp only
  have hx := (wt_tnI hx0).symm
  unfold wp_ap_said_B29 wp_ap_said_B34 wp_md_said_B39 wp_md_isWeek
  rw [wu_bind_eta]
  refine wr_gI n t0 (by decide) (Or.inr (Or.inl ⟨rfl, wt_v_sf rfl⟩)) (fun p0 _ => ?_)
  refine wt_HH_b (wr_greedily n hn bs p0) (fun q y h => ?_)
  obtain ⟨sk, fq, gy, ry, -⟩ := h
  refine wt_HH_b (wr_stillSaid n hn ry sk (wt_tt_fr tt fq gy (fun i a b => by (try dsimp only); omega) (fun i a => by (try dsimp only); omega)) w3 hx (by omega)) (fun q7 y7 h => ?_)
  obtain ⟨e, -, g7, r7⟩ := h
  refine wt_HH_r (wh_putsBackR n) (fun y8 h8 => ?_)
  refine wt_HH_some (Or.inr (Or.inr ⟨rfl, ?_, e⟩))
  show wt_gf y8 108 0 = 0
  rw [h8.1.1 108 0 (fun h => h), g7.1 108 0 (fun h => h), gy.1 108 0 (by decide)]
  exact t0
theorem wr_lost (n : Nat) (hn : 4294967297 < n) {x1 : Int32} {s z : wt_St} (v : wt_IV z) (rl : wu_RL s z) : wt_HH (wp_ap_lost n x1 s) (wp_md_lost n x1 z) (fun q y => (q.1 = 1 ∧ wt_gf y.2 108 0 = 1) ∨ (q.1 = 0 ∧ wt_gf y.2 108 0 = 0 ∧ q.2.1 = y.1)) := by
  have k0 : (0 : Int32).toInt = 0 := by decide
  unfold wp_ap_lost wp_md_lost wp_ap_lost_B10 wp_ap_lost_B15 wp_md_lost_B18 wp_md_isWeek
  rw [wu_bind_eta]
  obtain ⟨z0, ε0⟩ : ∃ o : wt_St, o = wt_sf z 108 0 (0 : Int32) := ⟨_, rfl⟩
  rw [← ε0]
  have g0 := wt_fr_sf ε0
  have t0 : wt_gf z0 108 0 = 0 := wt_v_sf ε0
  have r0 : wt_RI z0 := wt_RI_fno v.1 ε0 (Or.inr (by decide +kernel))
  have rl0 := wu_RL_z0 rl v.1 g0
  have bs := wu_BS_of r0 rl0
  obtain ⟨W, G, ⟨w1, w2, w3⟩, -, tt, -⟩ := rl0.2.2.1
  refine wr_gI n t0 (by decide) (Or.inl ⟨rfl, wt_v_sf rfl⟩) (fun p0 _ => ?_)
  refine wt_HH_b (wr_greedily n hn bs p0) (fun q y h => ?_)
  obtain ⟨sk, fq, gy, ry, -⟩ := h
  unfold wp_wk_wordsLost
  have E : wt_HH (wt_it (wp_wk_wordsLost_B4 n) n ((0 : Int32), (0 : Int32), q)) (wt_it (wp_md_lost_B37 n) n ((0 : Int32), (0 : Int32), y.2)) (fun a b => a.1 = b.1 ∧ wt_gf b.2 108 0 = 0) := by
    refine wt_HH_it (fun (t u : Int32 × Int32 × wt_St) => (t.1 = u.1 ∧ t.2.1 = u.2.1 ∧ 0 ≤ u.2.1.toInt) ∧ wu_fC s t.2.2 ∧ wu_fR z0 u.2.2 ∧ wt_RI u.2.2 ∧ wu_SK 98 t.2.2 u.2.2) (fun K K' t u I hK => ?_) n n _ _ ⟨⟨rfl, rfl, by show 0 ≤ ((0 : Int32)).toInt; omega⟩, fq, gy, ry, sk⟩
    obtain ⟨⟨i1, i2, i3⟩, ft, gu, ru, su⟩ := I
    unfold wp_wk_wordsLost_B4 wp_md_lost_B37
    have e6 : wt_gf t.2.2 20 6 = wt_gf u.2.2 108 28 := wt_eqI (by rw [ft.1 20 6 (by decide), gu.1 108 28 (by decide), w1, w2])
    have e28 : (wt_gf u.2.2 108 28).toInt = (W : Int) := by rw [gu.1 108 28 (by decide)]; exact w2
    rw [i1, i2, e6]
    by_cases c : wt_gf u.2.2 108 28 ≤ u.2.1
    · rw [if_pos c, if_pos c]
      refine wt_HH_r (wh_putsBackR n) (fun y8 h8 => wt_HH_some ⟨rfl, ?_⟩)
      show wt_gf y8 108 0 = 0
      rw [h8.1.1 108 0 (fun h => h), gu.1 108 0 (by decide)]
      exact t0
    · rw [if_neg c, if_neg c]
      have c' := wt_ncle c
      have ei := wt_i1 (c := u.2.1) (by omega)
      refine wt_HH_b (wr_stillSaid n hn ru su (wt_tt_fr tt ft gu (fun i a b => by (try dsimp only); omega) (fun i a => by (try dsimp only); omega)) w3 (wt_tnI i3).symm (by have := wt_tnI i3; omega)) (fun q7 y7 h => ?_)
      obtain ⟨e, f7, g7, r7⟩ := h
      have N : ∀ w : Int32, wt_HH (wp_wk_wordsLost_B29 n u.2.1 K u.1 w q7.2) (wp_md_lost_B59 n u.2.1 K' u.1 w y7.2) (fun a b => a.1 = b.1 ∧ wt_gf b.2 108 0 = 0) := fun w => by
        unfold wp_wk_wordsLost_B29 wp_md_lost_B59
        exact hK _ _ ⟨⟨rfl, rfl, by show 0 ≤ (u.2.1 + (1 : Int32)).toInt; omega⟩, wu_fC_tr ft (f7.wk (fun _ _ h => h.elim) (fun _ h => by omega)), wu_fR_tr gu (g7.wk (fun _ _ h => h.elim) (fun _ h => by omega)), r7, wu_SK_fr su f7 g7 ⟨by decide, by decide, by decide⟩ ⟨by decide, by decide, by decide⟩⟩
      rw [e]
      by_cases d : y7.1 = 0
      · rw [if_pos d, if_pos d]
        exact N 1
      · rw [if_neg d, if_neg d]
        exact N 0
  rw [← wu_bind_eta (wt_it (wp_md_lost_B37 n) n ((0 : Int32), (0 : Int32), y.2))]
  exact wt_HH_b E (fun a b h => wt_HH_some (Or.inr ⟨rfl, h.2, h.1⟩))
end WTQ5
