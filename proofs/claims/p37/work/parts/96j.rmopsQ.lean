-- 96j.rmops.lean.txt
section WTQ0
set_option maxHeartbeats 4000000 in
theorem wk2_feed (n : Nat) (hn : 4294967297 < n) {σ : wt_St} (x1 x2 x3 x4 x5 : Int32) (v : wt_IV σ) (j : wu_RM σ) : wt_H (wp_ap_feed n x1 x2 x3 x4 x5 σ) (fun q => wt_H (wp_md_feed n x1 x2 x3 x4 x5 q.2) (fun r => wu_RM r.2)) := by
  refine (wq_ap_feed n hn x1 x2 x3 x4 x5 σ).h.imp (fun q hq => ?_)
  have fq := hq.1
  have v2 : wt_IV q.2 := wt_IV_cls v fq (fun k => (by (try dsimp only); first | omega | exact fun h => h | (intros; omega) | decide)) (fun i hi => (by (try dsimp only); first | omega | exact fun h => h | (intros; omega) | decide))
  refine (wq_md_feed n hn x1 x2 x3 x4 x5 q.2 v2.1).h.imp (fun r hr => ?_)
  have fr := hr.1
  exact wu_RM_fr v.1 v2.1 j fq fr (fun i k h => by unfold wu_mF at h; (try dsimp only); first | omega | exact fun h => h) (fun i h => by unfold wu_mA at h; (try dsimp only); first | omega | exact fun h => h) (fun k => by (try dsimp only); first | omega | exact fun h => h) (fun i h => by (try dsimp only); first | omega | exact fun h => h) (fun i k h => by (try dsimp only); first | omega | exact fun h => h) (fun i h => by (try dsimp only); first | omega | exact fun h => h) (fun k h => by unfold wu_mG at h; (try dsimp only); first | omega | exact fun h => h) (fun i h => by unfold wu_mB at h; (try dsimp only); first | omega | exact fun h => h)
set_option maxHeartbeats 4000000 in
theorem wk2_fault (n : Nat) (hn : 4294967297 < n) {σ : wt_St} (v : wt_IV σ) (j : wu_RM σ) : wt_H (wp_ap_fault n σ) (fun q => wt_H (wp_md_fault n q.2) (fun r => wu_RM r.2)) := by
  refine (wq_ap_fault n hn σ).h.imp (fun q hq => ?_)
  have fq := (by rw [hq]; exact wt_fr.rf : wt_fr (fun _ _ => False) (fun _ => False) σ q.2)
  have v2 : wt_IV q.2 := wt_IV_cls v fq (fun k => (by (try dsimp only); first | omega | exact fun h => h | (intros; omega) | decide)) (fun i hi => (by (try dsimp only); first | omega | exact fun h => h | (intros; omega) | decide))
  refine (wq_md_fault n hn q.2 v2.1).h.imp (fun r hr => ?_)
  have fr := hr.1
  exact wu_RM_fr v.1 v2.1 j fq fr (fun i k h => by unfold wu_mF at h; (try dsimp only); first | omega | exact fun h => h) (fun i h => by unfold wu_mA at h; (try dsimp only); first | omega | exact fun h => h) (fun k => by (try dsimp only); first | omega | exact fun h => h) (fun i h => by (try dsimp only); first | omega | exact fun h => h) (fun i k h => by (try dsimp only); first | omega | exact fun h => h) (fun i h => by (try dsimp only); first | omega | exact fun h => h) (fun k h => by unfold wu_mG at h; (try dsimp only); first | omega | exact fun h => h) (fun i h => by unfold wu_mB at h; (try dsimp only); first | omega | exact fun h => h)
set_option maxHeartbeats 4000000 in
theorem wk2_told (n : Nat) (hn : 4294967297 < n) {σ : wt_St} (x1 : Int32) (v : wt_IV σ) (j : wu_RM σ) : wt_H (wp_ap_told n x1 σ) (fun q => wt_H (wp_md_told n x1 q.2.2) (fun r => wu_RM r.2)) := by
  refine (wq_ap_told n hn x1 σ).h.imp (fun q hq => ?_)
  have fq := (by rw [hq.1]; exact wt_fr.rf : wt_fr (fun _ _ => False) (fun _ => False) σ q.2.2)
  have v2 : wt_IV q.2.2 := wt_IV_cls v fq (fun k => (by (try dsimp only); first | omega | exact fun h => h | (intros; omega) | decide)) (fun i hi => (by (try dsimp only); first | omega | exact fun h => h | (intros; omega) | decide))
  refine (wq_md_told n hn x1 q.2.2 v2.1).h.imp (fun r hr => ?_)
  have fr := hr.1
  exact wu_RM_fr v.1 v2.1 j fq fr (fun i k h => by unfold wu_mF at h; (try dsimp only); first | omega | exact fun h => h) (fun i h => by unfold wu_mA at h; (try dsimp only); first | omega | exact fun h => h) (fun k => by (try dsimp only); first | omega | exact fun h => h) (fun i h => by (try dsimp only); first | omega | exact fun h => h) (fun i k h => by (try dsimp only); first | omega | exact fun h => h) (fun i h => by (try dsimp only); first | omega | exact fun h => h) (fun k h => by unfold wu_mG at h; (try dsimp only); first | omega | exact fun h => h) (fun i h => by unfold wu_mB at h; (try dsimp only); first | omega | exact fun h => h)
set_option maxHeartbeats 4000000 in
theorem wk2_letter (n : Nat) (hn : 4294967297 < n) {σ : wt_St} (x1 x2 : Int32) (v : wt_IV σ) (j : wu_RM σ) : wt_H (wp_ap_letter n x1 x2 σ) (fun q => wt_H (wp_md_letter n x1 x2 q.2.2) (fun r => wu_RM r.2)) := by
  refine (wq_ap_letter n hn x1 x2 σ).h.imp (fun q hq => ?_)
  have fq := (by rw [hq.1]; exact wt_fr.rf : wt_fr (fun _ _ => False) (fun _ => False) σ q.2.2)
  have v2 : wt_IV q.2.2 := wt_IV_cls v fq (fun k => (by (try dsimp only); first | omega | exact fun h => h | (intros; omega) | decide)) (fun i hi => (by (try dsimp only); first | omega | exact fun h => h | (intros; omega) | decide))
  refine (wq_md_letter n hn x1 x2 q.2.2 v2.1).h.imp (fun r hr => ?_)
  have fr := hr.1
  exact wu_RM_fr v.1 v2.1 j fq fr (fun i k h => by unfold wu_mF at h; (try dsimp only); first | omega | exact fun h => h) (fun i h => by unfold wu_mA at h; (try dsimp only); first | omega | exact fun h => h) (fun k => by (try dsimp only); first | omega | exact fun h => h) (fun i h => by (try dsimp only); first | omega | exact fun h => h) (fun i k h => by (try dsimp only); first | omega | exact fun h => h) (fun i h => by (try dsimp only); first | omega | exact fun h => h) (fun k h => by unfold wu_mG at h; (try dsimp only); first | omega | exact fun h => h) (fun i h => by unfold wu_mB at h; (try dsimp only); first | omega | exact fun h => h)
set_option maxHeartbeats 4000000 in
theorem wk2_piece (n : Nat) (hn : 4294967297 < n) {σ : wt_St} (x1 x2 x3 : Int32) (v : wt_IV σ) (j : wu_RM σ) : wt_H (wp_ap_piece n x1 x2 x3 σ) (fun q => wt_H (wp_md_piece n x1 x2 x3 q.2.2) (fun r => wu_RM r.2)) := by
  refine (wq_ap_piece n hn x1 x2 x3 σ).h.imp (fun q hq => ?_)
  have fq := (by rw [hq.1]; exact wt_fr.rf : wt_fr (fun _ _ => False) (fun _ => False) σ q.2.2)
  have v2 : wt_IV q.2.2 := wt_IV_cls v fq (fun k => (by (try dsimp only); first | omega | exact fun h => h | (intros; omega) | decide)) (fun i hi => (by (try dsimp only); first | omega | exact fun h => h | (intros; omega) | decide))
  refine (wq_md_piece n hn x1 x2 x3 q.2.2 v2.1).h.imp (fun r hr => ?_)
  have fr := hr.1
  exact wu_RM_fr v.1 v2.1 j fq fr (fun i k h => by unfold wu_mF at h; (try dsimp only); first | omega | exact fun h => h) (fun i h => by unfold wu_mA at h; (try dsimp only); first | omega | exact fun h => h) (fun k => by (try dsimp only); first | omega | exact fun h => h) (fun i h => by (try dsimp only); first | omega | exact fun h => h) (fun i k h => by (try dsimp only); first | omega | exact fun h => h) (fun i h => by (try dsimp only); first | omega | exact fun h => h) (fun k h => by unfold wu_mG at h; (try dsimp only); first | omega | exact fun h => h) (fun i h => by unfold wu_mB at h; (try dsimp only); first | omega | exact fun h => h)
set_option maxHeartbeats 4000000 in
theorem wk2_word (n : Nat) (hn : 4294967297 < n) {σ : wt_St} (x1 x2 : Int32) (v : wt_IV σ) (j : wu_RM σ) : wt_H (wp_ap_word n x1 x2 σ) (fun q => wt_H (wp_md_word n x1 x2 q.2.2) (fun r => wu_RM r.2)) := by
  refine (wq_ap_word n hn x1 x2 σ).h.imp (fun q hq => ?_)
  have fq := hq.1
  have v2 : wt_IV q.2.2 := wt_IV_cls v fq (fun k => (by (try dsimp only); first | omega | exact fun h => h | (intros; omega) | decide)) (fun i hi => (by (try dsimp only); first | omega | exact fun h => h | (intros; omega) | decide))
  refine (wq_md_word n hn x1 x2 q.2.2 v2.1).h.imp (fun r hr => ?_)
  have fr := hr.1
  exact wu_RM_fr v.1 v2.1 j fq fr (fun i k h => by unfold wu_mF at h; (try dsimp only); first | omega | exact fun h => h) (fun i h => by unfold wu_mA at h; (try dsimp only); first | omega | exact fun h => h) (fun k => by (try dsimp only); first | omega | exact fun h => h) (fun i h => by (try dsimp only); first | omega | exact fun h => h) (fun i k h => by (try dsimp only); first | omega | exact fun h => h) (fun i h => by (try dsimp only); first | omega | exact fun h => h) (fun k h => by unfold wu_mG at h; (try dsimp only); first | omega | exact fun h => h) (fun i h => by unfold wu_mB at h; (try dsimp only); first | omega | exact fun h => h)
set_option maxHeartbeats 4000000 in
theorem wk2_at (n : Nat) (hn : 4294967297 < n) {σ : wt_St} (x1 x2 : Int32) (v : wt_IV σ) (j : wu_RM σ) : wt_H (wp_ap_at n x1 x2 σ) (fun q => wt_H (wp_md_at n x1 x2 q.2.2) (fun r => wu_RM r.2)) := by
  refine (wq_ap_at n hn x1 x2 σ).h.imp (fun q hq => ?_)
  have fq := (by rw [hq.1]; exact wt_fr.rf : wt_fr (fun _ _ => False) (fun _ => False) σ q.2.2)
  have v2 : wt_IV q.2.2 := wt_IV_cls v fq (fun k => (by (try dsimp only); first | omega | exact fun h => h | (intros; omega) | decide)) (fun i hi => (by (try dsimp only); first | omega | exact fun h => h | (intros; omega) | decide))
  refine (wq_md_at n hn x1 x2 q.2.2 v2.1).h.imp (fun r hr => ?_)
  have fr := hr.1
  exact wu_RM_fr v.1 v2.1 j fq fr (fun i k h => by unfold wu_mF at h; (try dsimp only); first | omega | exact fun h => h) (fun i h => by unfold wu_mA at h; (try dsimp only); first | omega | exact fun h => h) (fun k => by (try dsimp only); first | omega | exact fun h => h) (fun i h => by (try dsimp only); first | omega | exact fun h => h) (fun i k h => by (try dsimp only); first | omega | exact fun h => h) (fun i h => by (try dsimp only); first | omega | exact fun h => h) (fun k h => by unfold wu_mG at h; (try dsimp only); first | omega | exact fun h => h) (fun i h => by unfold wu_mB at h; (try dsimp only); first | omega | exact fun h => h)
set_option maxHeartbeats 4000000 in
theorem wk2_needs (n : Nat) (hn : 4294967297 < n) {σ : wt_St} (x1 x2 : Int32) (v : wt_IV σ) (j : wu_RM σ) : wt_H (wp_ap_needs n x1 x2 σ) (fun q => wt_H (wp_md_needs n x1 x2 q.2.2) (fun r => wu_RM r.2)) := by
  refine (wq_ap_needs n hn x1 x2 σ).h.imp (fun q hq => ?_)
  have fq := (by rw [hq.1]; exact wt_fr.rf : wt_fr (fun _ _ => False) (fun _ => False) σ q.2.2)
  have v2 : wt_IV q.2.2 := wt_IV_cls v fq (fun k => (by (try dsimp only); first | omega | exact fun h => h | (intros; omega) | decide)) (fun i hi => (by (try dsimp only); first | omega | exact fun h => h | (intros; omega) | decide))
  refine (wq_md_needs n hn x1 x2 q.2.2 v2.1).h.imp (fun r hr => ?_)
  have fr := hr.1
  exact wu_RM_fr v.1 v2.1 j fq fr (fun i k h => by unfold wu_mF at h; (try dsimp only); first | omega | exact fun h => h) (fun i h => by unfold wu_mA at h; (try dsimp only); first | omega | exact fun h => h) (fun k => by (try dsimp only); first | omega | exact fun h => h) (fun i h => by (try dsimp only); first | omega | exact fun h => h) (fun i k h => by (try dsimp only); first | omega | exact fun h => h) (fun i h => by (try dsimp only); first | omega | exact fun h => h) (fun k h => by unfold wu_mG at h; (try dsimp only); first | omega | exact fun h => h) (fun i h => by unfold wu_mB at h; (try dsimp only); first | omega | exact fun h => h)
set_option maxHeartbeats 4000000 in
theorem wk2_can (n : Nat) (hn : 4294967297 < n) {σ : wt_St} (x1 : Int32) (v : wt_IV σ) (j : wu_RM σ) : wt_H (wp_ap_can n x1 σ) (fun q => wt_H (wp_md_can n x1 q.2.2) (fun r => wu_RM r.2)) := by
  refine (wq_ap_can n hn x1 σ).h.imp (fun q hq => ?_)
  have fq := hq.1
  have v2 : wt_IV q.2.2 := wt_IV_cls v fq (fun k => (by (try dsimp only); first | omega | exact fun h => h | (intros; omega) | decide)) (fun i hi => (by (try dsimp only); first | omega | exact fun h => h | (intros; omega) | decide))
  refine (wq_md_can n hn x1 q.2.2 v2.1).h.imp (fun r hr => ?_)
  have fr := hr.1
  exact wu_RM_fr v.1 v2.1 j fq fr (fun i k h => by unfold wu_mF at h; (try dsimp only); first | omega | exact fun h => h) (fun i h => by unfold wu_mA at h; (try dsimp only); first | omega | exact fun h => h) (fun k => by (try dsimp only); first | omega | exact fun h => h) (fun i h => by (try dsimp only); first | omega | exact fun h => h) (fun i k h => by (try dsimp only); first | omega | exact fun h => h) (fun i h => by (try dsimp only); first | omega | exact fun h => h) (fun k h => by unfold wu_mG at h; (try dsimp only); first | omega | exact fun h => h) (fun i h => by unfold wu_mB at h; (try dsimp only); first | omega | exact fun h => h)
set_option maxHeartbeats 4000000 in
theorem wk2_lacks (n : Nat) (hn : 4294967297 < n) {σ : wt_St} (x1 x2 : Int32) (v : wt_IV σ) (j : wu_RM σ) : wt_H (wp_ap_lacks n x1 x2 σ) (fun q => wt_H (wp_md_lacks n x1 x2 q.2.2) (fun r => wu_RM r.2)) := by
  refine (wq_ap_lacks n hn x1 x2 σ).h.imp (fun q hq => ?_)
  have fq := hq.1
  have v2 : wt_IV q.2.2 := wt_IV_cls v fq (fun k => (by (try dsimp only); first | omega | exact fun h => h | (intros; omega) | decide)) (fun i hi => (by (try dsimp only); first | omega | exact fun h => h | (intros; omega) | decide))
  refine (wq_md_lacks n hn x1 x2 q.2.2 v2.1).h.imp (fun r hr => ?_)
  have fr := hr.1
  exact wu_RM_fr v.1 v2.1 j fq fr (fun i k h => by unfold wu_mF at h; (try dsimp only); first | omega | exact fun h => h) (fun i h => by unfold wu_mA at h; (try dsimp only); first | omega | exact fun h => h) (fun k => by (try dsimp only); first | omega | exact fun h => h) (fun i h => by (try dsimp only); first | omega | exact fun h => h) (fun i k h => by (try dsimp only); first | omega | exact fun h => h) (fun i h => by (try dsimp only); first | omega | exact fun h => h) (fun k h => by unfold wu_mG at h; (try dsimp only); first | omega | exact fun h => h) (fun i h => by unfold wu_mB at h; (try dsimp only); first | omega | exact fun h => h)
set_option maxHeartbeats 4000000 in
theorem wk2_page (n : Nat) (hn : 4294967297 < n) {σ : wt_St} (x1 x2 : Int32) (v : wt_IV σ) (j : wu_RM σ) : wt_H (wp_ap_page n x1 x2 σ) (fun q => wt_H (wp_md_page n x1 x2 q.2.2) (fun r => wu_RM r.2)) := by
  refine (wq_ap_page n hn x1 x2 σ).h.imp (fun q hq => ?_)
  have fq := hq.1
  have v2 : wt_IV q.2.2 := wt_IV_cls v fq (fun k => (by (try dsimp only); first | omega | exact fun h => h | (intros; omega) | decide)) (fun i hi => (by (try dsimp only); first | omega | exact fun h => h | (intros; omega) | decide))
  refine (wq_md_page n hn x1 x2 q.2.2 v2.1 v2.2.2.1).h.imp (fun r hr => ?_)
  have fr := hr.1
  exact wu_RM_fr v.1 v2.1 j fq fr (fun i k h => by unfold wu_mF at h; (try dsimp only); first | omega | exact fun h => h) (fun i h => by unfold wu_mA at h; (try dsimp only); first | omega | exact fun h => h) (fun k => by (try dsimp only); first | omega | exact fun h => h) (fun i h => by (try dsimp only); first | omega | exact fun h => h) (fun i k h => by (try dsimp only); first | omega | exact fun h => h) (fun i h => by (try dsimp only); first | omega | exact fun h => h) (fun k h => by unfold wu_mG at h; (try dsimp only); first | omega | exact fun h => h) (fun i h => by unfold wu_mB at h; (try dsimp only); first | omega | exact fun h => h)
set_option maxHeartbeats 4000000 in
theorem wk2_read (n : Nat) (hn : 4294967297 < n) {σ : wt_St} (x1 x2 : Int32) (v : wt_IV σ) (j : wu_RM σ) : wt_H (wp_ap_read n x1 x2 σ) (fun q => wt_H (wp_md_read n x1 x2 q.2.2) (fun r => wu_RM r.2)) := by
  refine (wq_ap_read n hn x1 x2 σ).h.imp (fun q hq => ?_)
  have fq := hq.1
  have v2 : wt_IV q.2.2 := wt_IV_cls v fq (fun k => (by (try dsimp only); first | omega | exact fun h => h | (intros; omega) | decide)) (fun i hi => (by (try dsimp only); first | omega | exact fun h => h | (intros; omega) | decide))
  refine (wq_md_read n hn x1 x2 q.2.2 v2.1 v2.2.2.1).h.imp (fun r hr => ?_)
  have fr := hr.1
  exact wu_RM_fr v.1 v2.1 j fq fr (fun i k h => by unfold wu_mF at h; (try dsimp only); first | omega | exact fun h => h) (fun i h => by unfold wu_mA at h; (try dsimp only); first | omega | exact fun h => h) (fun k => by (try dsimp only); first | omega | exact fun h => h) (fun i h => by (try dsimp only); first | omega | exact fun h => h) (fun i k h => by (try dsimp only); first | omega | exact fun h => h) (fun i h => by (try dsimp only); first | omega | exact fun h => h) (fun k h => by unfold wu_mG at h; (try dsimp only); first | omega | exact fun h => h) (fun i h => by unfold wu_mB at h; (try dsimp only); first | omega | exact fun h => h)
set_option maxHeartbeats 4000000 in
theorem wk2_least (n : Nat) (hn : 4294967297 < n) {σ : wt_St} (x1 x2 x3 : Int32) (v : wt_IV σ) (j : wu_RM σ) : wt_H (wp_ap_least n x1 x2 x3 σ) (fun q => wt_H (wp_md_least n x1 x2 x3 q.2.2) (fun r => wu_RM r.2)) := by
  refine (wq_ap_least n hn x1 x2 x3 σ).h.imp (fun q hq => ?_)
  have fq := hq.1
  have v2 : wt_IV q.2.2 := wt_IV_cls v fq (fun k => (by (try dsimp only); first | omega | exact fun h => h | (intros; omega) | decide)) (fun i hi => (by (try dsimp only); first | omega | exact fun h => h | (intros; omega) | decide))
  refine (wq_md_least n hn x1 x2 x3 q.2.2 v2.1).h.imp (fun r hr => ?_)
  have fr := hr.1
  exact wu_RM_fr v.1 v2.1 j fq fr (fun i k h => by unfold wu_mF at h; (try dsimp only); first | omega | exact fun h => h) (fun i h => by unfold wu_mA at h; (try dsimp only); first | omega | exact fun h => h) (fun k => by (try dsimp only); first | omega | exact fun h => h) (fun i h => by (try dsimp only); first | omega | exact fun h => h) (fun i k h => by (try dsimp only); first | omega | exact fun h => h) (fun i h => by (try dsimp only); first | omega | exact fun h => h) (fun k h => by unfold wu_mG at h; (try dsimp only); first | omega | exact fun h => h) (fun i h => by unfold wu_mB at h; (try dsimp only); first | omega | exact fun h => h)
set_option maxHeartbeats 4000000 in
theorem wk2_fitting (n : Nat) (hn : 4294967297 < n) {σ : wt_St} (x1 x2 x3 x4 : Int32) (v : wt_IV σ) (j : wu_RM σ) : wt_H (wp_ap_fitting n x1 x2 x3 x4 σ) (fun q => wt_H (wp_md_fitting n x1 x2 x3 x4 q.2.2) (fun r => wu_RM r.2)) := by
  refine (wq_ap_fitting n hn x1 x2 x3 x4 σ).h.imp (fun q hq => ?_)
  have fq := hq.1
  have v2 : wt_IV q.2.2 := wt_IV_cls v fq (fun k => (by (try dsimp only); first | omega | exact fun h => h | (intros; omega) | decide)) (fun i hi => (by (try dsimp only); first | omega | exact fun h => h | (intros; omega) | decide))
  refine (wq_md_fitting n hn x1 x2 x3 x4 q.2.2 v2.1).h.imp (fun r hr => ?_)
  have fr := hr.1
  exact wu_RM_fr v.1 v2.1 j fq fr (fun i k h => by unfold wu_mF at h; (try dsimp only); first | omega | exact fun h => h) (fun i h => by unfold wu_mA at h; (try dsimp only); first | omega | exact fun h => h) (fun k => by (try dsimp only); first | omega | exact fun h => h) (fun i h => by (try dsimp only); first | omega | exact fun h => h) (fun i k h => by (try dsimp only); first | omega | exact fun h => h) (fun i h => by (try dsimp only); first | omega | exact fun h => h) (fun k h => by unfold wu_mG at h; (try dsimp only); first | omega | exact fun h => h) (fun i h => by unfold wu_mB at h; (try dsimp only); first | omega | exact fun h => h)
set_option maxHeartbeats 4000000 in
theorem wk2_wordings (n : Nat) (hn : 4294967297 < n) {σ : wt_St} (x1 : Int32) (v : wt_IV σ) (j : wu_RM σ) : wt_H (wp_ap_wordings n x1 σ) (fun q => wt_H (wp_md_wordings n x1 q.2.2) (fun r => wu_RM r.2)) := by
  refine (wq_ap_wordings n hn x1 σ).h.imp (fun q hq => ?_)
  have fq := hq.1
  have v2 : wt_IV q.2.2 := wt_IV_cls v fq (fun k => (by (try dsimp only); first | omega | exact fun h => h | (intros; omega) | decide)) (fun i hi => (by (try dsimp only); first | omega | exact fun h => h | (intros; omega) | decide))
  refine (wq_md_wordings n hn x1 q.2.2 v2.1).h.imp (fun r hr => ?_)
  have fr := hr.1
  exact wu_RM_fr v.1 v2.1 j fq fr (fun i k h => by unfold wu_mF at h; (try dsimp only); first | omega | exact fun h => h) (fun i h => by unfold wu_mA at h; (try dsimp only); first | omega | exact fun h => h) (fun k => by (try dsimp only); first | omega | exact fun h => h) (fun i h => by (try dsimp only); first | omega | exact fun h => h) (fun i k h => by (try dsimp only); first | omega | exact fun h => h) (fun i h => by (try dsimp only); first | omega | exact fun h => h) (fun k h => by unfold wu_mG at h; (try dsimp only); first | omega | exact fun h => h) (fun i h => by unfold wu_mB at h; (try dsimp only); first | omega | exact fun h => h)
set_option maxHeartbeats 4000000 in
theorem wk2_bound (n : Nat) (hn : 4294967297 < n) {σ : wt_St} (v : wt_IV σ) (j : wu_RM σ) : wt_H (wp_ap_bound n σ) (fun q => wt_H (wp_md_bound n q.2) (fun r => wu_RM r.2)) := by
  refine (wq_ap_bound n hn σ).h.imp (fun q hq => ?_)
  have fq := (by rw [hq]; exact wt_fr.rf : wt_fr (fun _ _ => False) (fun _ => False) σ q.2)
  have v2 : wt_IV q.2 := wt_IV_cls v fq (fun k => (by (try dsimp only); first | omega | exact fun h => h | (intros; omega) | decide)) (fun i hi => (by (try dsimp only); first | omega | exact fun h => h | (intros; omega) | decide))
  refine (wq_md_bound n hn q.2 v2.1).h.imp (fun r hr => ?_)
  have fr := hr.1
  exact wu_RM_fr v.1 v2.1 j fq fr (fun i k h => by unfold wu_mF at h; (try dsimp only); first | omega | exact fun h => h) (fun i h => by unfold wu_mA at h; (try dsimp only); first | omega | exact fun h => h) (fun k => by (try dsimp only); first | omega | exact fun h => h) (fun i h => by (try dsimp only); first | omega | exact fun h => h) (fun i k h => by (try dsimp only); first | omega | exact fun h => h) (fun i h => by (try dsimp only); first | omega | exact fun h => h) (fun k h => by unfold wu_mG at h; (try dsimp only); first | omega | exact fun h => h) (fun i h => by unfold wu_mB at h; (try dsimp only); first | omega | exact fun h => h)
set_option maxHeartbeats 4000000 in
theorem wk2_count (n : Nat) (hn : 4294967297 < n) {σ : wt_St} (x1 : Int32) (v : wt_IV σ) (j : wu_RM σ) : wt_H (wp_ap_count n x1 σ) (fun q => wt_H (wp_md_count n x1 q.2) (fun r => wu_RM r.2)) := by
  refine (wq_ap_count n hn x1 σ).h.imp (fun q hq => ?_)
  have fq := (by rw [hq]; exact wt_fr.rf : wt_fr (fun _ _ => False) (fun _ => False) σ q.2)
  have v2 : wt_IV q.2 := wt_IV_cls v fq (fun k => (by (try dsimp only); first | omega | exact fun h => h | (intros; omega) | decide)) (fun i hi => (by (try dsimp only); first | omega | exact fun h => h | (intros; omega) | decide))
  refine (wq_md_count n hn x1 q.2 v2.1).h.imp (fun r hr => ?_)
  have fr := hr.1
  exact wu_RM_fr v.1 v2.1 j fq fr (fun i k h => by unfold wu_mF at h; (try dsimp only); first | omega | exact fun h => h) (fun i h => by unfold wu_mA at h; (try dsimp only); first | omega | exact fun h => h) (fun k => by (try dsimp only); first | omega | exact fun h => h) (fun i h => by (try dsimp only); first | omega | exact fun h => h) (fun i k h => by (try dsimp only); first | omega | exact fun h => h) (fun i h => by (try dsimp only); first | omega | exact fun h => h) (fun k h => by unfold wu_mG at h; (try dsimp only); first | omega | exact fun h => h) (fun i h => by unfold wu_mB at h; (try dsimp only); first | omega | exact fun h => h)
set_option maxHeartbeats 4000000 in
theorem wk2_most (n : Nat) (hn : 4294967297 < n) {σ : wt_St} (x1 : Int32) (v : wt_IV σ) (j : wu_RM σ) : wt_H (wp_ap_most n x1 σ) (fun q => wt_H (wp_md_most n x1 q.2.2) (fun r => wu_RM r.2)) := by
  refine (wq_ap_most n hn x1 σ).h.imp (fun q hq => ?_)
  have fq := hq.1
  have v2 : wt_IV q.2.2 := wt_IV_cls v fq (fun k => (by (try dsimp only); first | omega | exact fun h => h | (intros; omega) | decide)) (fun i hi => (by (try dsimp only); first | omega | exact fun h => h | (intros; omega) | decide))
  refine (wt_H_and (wh_mostR n hn v2.1) (wq_md_most n hn x1 q.2.2 v2.1).h).imp (fun r hr0 => ?_)
  have hr := hr0.2
  have fr := hr.1
  have kv : wu_KV q.2.2 r.2 := wu_KV_KE v2.2.1 (fr.2 111 (by (try dsimp only); first | omega | exact fun h => h)) hr0.1
  exact wu_RM_kv v.1 v2.1 j fq fr kv (fun i k h => by unfold wu_mF at h; (try dsimp only); first | omega | exact fun h => h) (fun i h => by unfold wu_mA at h; (try dsimp only); first | omega | exact fun h => h) (fun k => by (try dsimp only); first | omega | exact fun h => h) (fun i h => by (try dsimp only); first | omega | exact fun h => h) (fun i k h => by (try dsimp only); first | omega | exact fun h => h) (fun i h => by (try dsimp only); first | omega | exact fun h => h) (fun k h => by unfold wu_mG at h; (try dsimp only); first | omega | exact fun h => h) (fun i h h9 => by unfold wu_mB at h; (try dsimp only); first | omega | exact fun h => h)
set_option maxHeartbeats 4000000 in
theorem wk2_greedy (n : Nat) (hn : 4294967297 < n) {σ : wt_St} (x1 : Int32) (v : wt_IV σ) (j : wu_RM σ) : wt_H (wp_ap_greedy n x1 σ) (fun q => wt_H (wp_md_greedy n x1 q.2.2) (fun r => wu_RM r.2)) := by
  refine (wq_ap_greedy n hn x1 σ).h.imp (fun q hq => ?_)
  have fq := hq.1
  have v2 : wt_IV q.2.2 := wt_IV_cls v fq (fun k => (by (try dsimp only); first | omega | exact fun h => h | (intros; omega) | decide)) (fun i hi => (by (try dsimp only); first | omega | exact fun h => h | (intros; omega) | decide))
  refine (wt_H_and (wh_greedyR n hn v2.1) (wq_md_greedy n hn x1 q.2.2 v2.1).h).imp (fun r hr0 => ?_)
  have hr := hr0.2
  have fr := hr.1
  have kv : wu_KV q.2.2 r.2 := wu_KV_KE v2.2.1 (fr.2 111 (by (try dsimp only); first | omega | exact fun h => h)) hr0.1
  exact wu_RM_kv v.1 v2.1 j fq fr kv (fun i k h => by unfold wu_mF at h; (try dsimp only); first | omega | exact fun h => h) (fun i h => by unfold wu_mA at h; (try dsimp only); first | omega | exact fun h => h) (fun k => by (try dsimp only); first | omega | exact fun h => h) (fun i h => by (try dsimp only); first | omega | exact fun h => h) (fun i k h => by (try dsimp only); first | omega | exact fun h => h) (fun i h => by (try dsimp only); first | omega | exact fun h => h) (fun k h => by unfold wu_mG at h; (try dsimp only); first | omega | exact fun h => h) (fun i h h9 => by unfold wu_mB at h; (try dsimp only); first | omega | exact fun h => h)
set_option maxHeartbeats 4000000 in
theorem wk2_said (n : Nat) (hn : 4294967297 < n) {σ : wt_St} (x1 x2 : Int32) (v : wt_IV σ) (j : wu_RM σ) : wt_H (wp_ap_said n x1 x2 σ) (fun q => wt_H (wp_md_said n x1 x2 q.2.2) (fun r => wu_RM r.2)) := by
  refine (wq_ap_said n hn x1 x2 σ).h.imp (fun q hq => ?_)
  have fq := hq.1
  have v2 : wt_IV q.2.2 := wt_IV_cls v fq (fun k => (by (try dsimp only); first | omega | exact fun h => h | (intros; omega) | decide)) (fun i hi => (by (try dsimp only); first | omega | exact fun h => h | (intros; omega) | decide))
  refine (wt_H_and (wh_saidR n hn v2.1) (wq_md_said n hn x1 x2 q.2.2 v2.1).h).imp (fun r hr0 => ?_)
  have hr := hr0.2
  have fr := hr.1
  have kv : wu_KV q.2.2 r.2 := wu_KV_KE v2.2.1 (fr.2 111 (by (try dsimp only); first | omega | exact fun h => h)) hr0.1
  exact wu_RM_kv v.1 v2.1 j fq fr kv (fun i k h => by unfold wu_mF at h; (try dsimp only); first | omega | exact fun h => h) (fun i h => by unfold wu_mA at h; (try dsimp only); first | omega | exact fun h => h) (fun k => by (try dsimp only); first | omega | exact fun h => h) (fun i h => by (try dsimp only); first | omega | exact fun h => h) (fun i k h => by (try dsimp only); first | omega | exact fun h => h) (fun i h => by (try dsimp only); first | omega | exact fun h => h) (fun k h => by unfold wu_mG at h; (try dsimp only); first | omega | exact fun h => h) (fun i h h9 => by unfold wu_mB at h; (try dsimp only); first | omega | exact fun h => h)
set_option maxHeartbeats 4000000 in
theorem wk2_lost (n : Nat) (hn : 4294967297 < n) {σ : wt_St} (x1 : Int32) (v : wt_IV σ) (j : wu_RM σ) : wt_H (wp_ap_lost n x1 σ) (fun q => wt_H (wp_md_lost n x1 q.2.2) (fun r => wu_RM r.2)) := by
  refine (wq_ap_lost n hn x1 σ).h.imp (fun q hq => ?_)
  have fq := hq.1
  have v2 : wt_IV q.2.2 := wt_IV_cls v fq (fun k => (by (try dsimp only); first | omega | exact fun h => h | (intros; omega) | decide)) (fun i hi => (by (try dsimp only); first | omega | exact fun h => h | (intros; omega) | decide))
  refine (wt_H_and (wh_lostR n hn v2.1) (wq_md_lost n hn x1 q.2.2 v2.1).h).imp (fun r hr0 => ?_)
  have hr := hr0.2
  have fr := hr.1
  have kv : wu_KV q.2.2 r.2 := wu_KV_KE v2.2.1 (fr.2 111 (by (try dsimp only); first | omega | exact fun h => h)) hr0.1
  exact wu_RM_kv v.1 v2.1 j fq fr kv (fun i k h => by unfold wu_mF at h; (try dsimp only); first | omega | exact fun h => h) (fun i h => by unfold wu_mA at h; (try dsimp only); first | omega | exact fun h => h) (fun k => by (try dsimp only); first | omega | exact fun h => h) (fun i h => by (try dsimp only); first | omega | exact fun h => h) (fun i k h => by (try dsimp only); first | omega | exact fun h => h) (fun i h => by (try dsimp only); first | omega | exact fun h => h) (fun k h => by unfold wu_mG at h; (try dsimp only); first | omega | exact fun h => h) (fun i h h9 => by unfold wu_mB at h; (try dsimp only); first | omega | exact fun h => h)
set_option maxHeartbeats 4000000 in
theorem wk2_ends (n : Nat) (hn : 4294967297 < n) {σ : wt_St} (x1 : Int32) (v : wt_IV σ) (j : wu_RM σ) : wt_H (wp_ap_ends n x1 σ) (fun q => wt_H (wp_md_ends n x1 q.2.2) (fun r => wu_RM r.2)) := by
  refine (wq_ap_ends n hn x1 σ).h.imp (fun q hq => ?_)
  have fq := hq.1
  have v2 : wt_IV q.2.2 := wt_IV_cls v fq (fun k => (by (try dsimp only); first | omega | exact fun h => h | (intros; omega) | decide)) (fun i hi => (by (try dsimp only); first | omega | exact fun h => h | (intros; omega) | decide))
  refine (wt_H_and (wh_endsR n hn v2.1) (wq_md_ends n hn x1 q.2.2 v2.1).h).imp (fun r hr0 => ?_)
  have hr := hr0.2
  have fr := hr.1
  have kv : wu_KV q.2.2 r.2 := wu_KV_KE v2.2.1 (fr.2 111 (by (try dsimp only); first | omega | exact fun h => h)) hr0.1
  exact wu_RM_kv v.1 v2.1 j fq fr kv (fun i k h => by unfold wu_mF at h; (try dsimp only); first | omega | exact fun h => h) (fun i h => by unfold wu_mA at h; (try dsimp only); first | omega | exact fun h => h) (fun k => by (try dsimp only); first | omega | exact fun h => h) (fun i h => by (try dsimp only); first | omega | exact fun h => h) (fun i k h => by (try dsimp only); first | omega | exact fun h => h) (fun i h => by (try dsimp only); first | omega | exact fun h => h) (fun k h => by unfold wu_mG at h; (try dsimp only); first | omega | exact fun h => h) (fun i h h9 => by unfold wu_mB at h; (try dsimp only); first | omega | exact fun h => h)
set_option maxHeartbeats 4000000 in
theorem wk2_exchange (n : Nat) (hn : 4294967297 < n) {σ : wt_St} (x1 : Int32) (v : wt_IV σ) (j : wu_RM σ) : wt_H (wp_ap_exchange n x1 σ) (fun q => wt_H (wp_md_exchange n x1 q.2.2) (fun r => wu_RM r.2)) := by
  refine (wq_ap_exchange n hn x1 σ).h.imp (fun q hq => ?_)
  have fq := hq.1
  have v2 : wt_IV q.2.2 := wt_IV_cls v fq (fun k => (by (try dsimp only); first | omega | exact fun h => h | (intros; omega) | decide)) (fun i hi => (by (try dsimp only); first | omega | exact fun h => h | (intros; omega) | decide))
  refine (wt_H_and (wh_exchangeR n hn v2.1 v2.2.1) (wq_md_exchange n hn x1 q.2.2 v2.1 v2.2.1).h).imp (fun r hr0 => ?_)
  have hr := hr0.2
  have fr := hr.1
  have kv : wu_KV q.2.2 r.2 := hr0.1
  exact wu_RM_kv v.1 v2.1 j fq fr kv (fun i k h => by unfold wu_mF at h; (try dsimp only); first | omega | exact fun h => h) (fun i h => by unfold wu_mA at h; (try dsimp only); first | omega | exact fun h => h) (fun k => by (try dsimp only); first | omega | exact fun h => h) (fun i h => by (try dsimp only); first | omega | exact fun h => h) (fun i k h => by (try dsimp only); first | omega | exact fun h => h) (fun i h => by (try dsimp only); first | omega | exact fun h => h) (fun k h => by unfold wu_mG at h; (try dsimp only); first | omega | exact fun h => h) (fun i h h9 => by unfold wu_mB at h; (try dsimp only); first | omega | exact fun h => h)
set_option maxHeartbeats 4000000 in
theorem wk2_cast (n : Nat) (hn : 4294967297 < n) {σ : wt_St} (x1 x2 : Int32) (v : wt_IV σ) (j : wu_RM σ) : wt_H (wp_ap_cast n x1 x2 σ) (fun q => wt_H (wp_md_cast n x1 x2 q.2.2) (fun r => wu_RM r.2)) := by
  refine (wq_ap_cast n hn x1 x2 σ).h.imp (fun q hq => ?_)
  have fq := hq.1
  have v2 : wt_IV q.2.2 := wt_IV_cls v fq (fun k => (by (try dsimp only); first | omega | exact fun h => h | (intros; omega) | decide)) (fun i hi => (by (try dsimp only); first | omega | exact fun h => h | (intros; omega) | decide))
  refine (wt_H_and (wh_castR n hn v2.1 v2.2.1) (wq_md_cast n hn x1 x2 q.2.2 v2.1 v2.2.1).h).imp (fun r hr0 => ?_)
  have hr := hr0.2
  have fr := hr.1
  have kv : wu_KV q.2.2 r.2 := hr0.1
  exact wu_RM_kv v.1 v2.1 j fq fr kv (fun i k h => by unfold wu_mF at h; (try dsimp only); first | omega | exact fun h => h) (fun i h => by unfold wu_mA at h; (try dsimp only); first | omega | exact fun h => h) (fun k => by (try dsimp only); first | omega | exact fun h => h) (fun i h => by (try dsimp only); first | omega | exact fun h => h) (fun i k h => by (try dsimp only); first | omega | exact fun h => h) (fun i h => by (try dsimp only); first | omega | exact fun h => h) (fun k h => by unfold wu_mG at h; (try dsimp only); first | omega | exact fun h => h) (fun i h h9 => by unfold wu_mB at h; (try dsimp only); first | omega | exact fun h => h)
set_option maxHeartbeats 4000000 in
theorem wk2_together (n : Nat) (hn : 4294967297 < n) {σ : wt_St} (x1 : Int32) (v : wt_IV σ) (j : wu_RM σ) : wt_H (wp_ap_together n x1 σ) (fun q => wt_H (wp_md_together n x1 q.2.2) (fun r => wu_RM r.2)) := by
  refine (wq_ap_together n hn x1 σ).h.imp (fun q hq => ?_)
  have fq := hq.1
  have v2 : wt_IV q.2.2 := wt_IV_cls v fq (fun k => (by (try dsimp only); first | omega | exact fun h => h | (intros; omega) | decide)) (fun i hi => (by (try dsimp only); first | omega | exact fun h => h | (intros; omega) | decide))
  refine (wt_H_and (wh_togetherR n hn v2.1) (wq_md_together n hn x1 q.2.2 v2.1).h).imp (fun r hr0 => ?_)
  have hr := hr0.2
  have fr := hr.1
  have kv : wu_KV q.2.2 r.2 := wu_KV_K0 v2.2.1 (wu_SC_fr j.2.1 fq fq (fun k hk => by (try dsimp only); first | omega | exact fun h => h) (fun k hk => by (try dsimp only); first | omega | exact fun h => h) (fun i p q => by (try dsimp only); first | omega | exact fun h => h) (fun i hi => by (try dsimp only); first | omega | exact fun h => h)) hr0.1
  exact wu_RM_kv v.1 v2.1 j fq fr kv (fun i k h => by unfold wu_mF at h; (try dsimp only); first | omega | exact fun h => h) (fun i h => by unfold wu_mA at h; (try dsimp only); first | omega | exact fun h => h) (fun k => by (try dsimp only); first | omega | exact fun h => h) (fun i h => by (try dsimp only); first | omega | exact fun h => h) (fun i k h => by (try dsimp only); first | omega | exact fun h => h) (fun i h => by (try dsimp only); first | omega | exact fun h => h) (fun k h => by unfold wu_mG at h; (try dsimp only); first | omega | exact fun h => h) (fun i h h9 => by unfold wu_mB at h; (try dsimp only); first | omega | exact fun h => h)
end WTQ0
-- 96k.rmsp.lean.txt
section WTQ1
set_option maxHeartbeats 4000000 in
theorem wa2_habit (n : Nat) (hn : 4294967297 < n) {σ : wt_St} (x1 : Int32) (v : wt_IV σ) (j : wu_RM σ) : wt_H (wp_ap_habit n x1 σ) (fun q => wt_H (wp_md_habit n x1 q.2.2) (fun r => ((q.1 = 1 ∧ wt_gf r.2 108 0 = 1) ∨ (q.1 = 0 ∧ wt_gf r.2 108 0 = 0 ∧ q.2.1 = r.1)) ∧ wu_RM r.2)) := by
  intro q hq r hr
  obtain ⟨q', hq', hfq⟩ := wq_ap_habit n hn x1 σ
  rw [hq] at hq'
  cases hq'
  have fq := hfq.1
  have v2 : wt_IV q.2.2 := wt_IV_cls v fq (fun k => (by (try dsimp only); first | omega | exact fun h => h | (intros; omega) | decide)) (fun i hi => (by (try dsimp only); first | omega | exact fun h => h | (intros; omega) | decide))
  obtain ⟨r', hr', hfr⟩ := wq_md_habit n hn x1 q.2.2 v2.1
  rw [hr] at hr'
  cases hr'
  have fr := hfr.1
  have rr : wt_RI r.2 := hfr.2
  obtain ⟨lcm, scm, sim⟩ := wu_midM j v.1 fq (fun k => by (try dsimp only); first | omega | exact fun h => h) (fun i h => by (try dsimp only); first | omega | exact fun h => h)
  obtain ⟨an, sc⟩ := wr_habit n scm q r hq hr
  obtain ⟨lc, si⟩ := wu_LI_fr v.1 v2.1 j fq fr (fun i k h => by unfold wu_iF at h; (try dsimp only); first | omega | exact fun h => h) (fun i h => by unfold wu_iA at h; (try dsimp only); first | omega | exact fun h => h) (fun k => by (try dsimp only); first | omega | exact fun h => h) (fun i h => by (try dsimp only); first | omega | exact fun h => h) (fun i k h => by (try dsimp only); first | omega | exact fun h => h) (fun i h => by (try dsimp only); first | omega | exact fun h => h) (fun k h => by unfold wu_iG at h; (try dsimp only); first | omega | exact fun h => h) (fun i h => by unfold wu_iB at h; (try dsimp only); first | omega | exact fun h => h)
  exact ⟨an, lc, wu_endSC sc fr (fun i k h => by (try dsimp only); first | omega | exact fun h => h) (fun i h => by (try dsimp only); first | omega | exact fun h => h), si⟩
set_option maxHeartbeats 4000000 in
theorem wa2_want (n : Nat) (hn : 4294967297 < n) {σ : wt_St} (x1 x2 x3 x4 : Int32) (v : wt_IV σ) (tx : wu_TX σ σ) (j : wu_RM σ) : wt_H (wp_ap_want n x1 x2 x3 x4 σ) (fun q => wt_H (wp_md_want n x1 x2 x3 x4 q.2.2) (fun r => ((q.1 = 2 ∧ wt_gf r.2 108 0 = 1) ∨ (q.1 = 1 ∧ wt_gf r.2 108 0 = 2) ∨ (q.1 = 0 ∧ wt_gf r.2 108 0 = 0 ∧ q.2.1 = r.1)) ∧ wu_RM r.2)) := by
  intro q hq r hr
  obtain ⟨q', hq', hfq⟩ := wq_ap_want n hn x1 x2 x3 x4 σ
  rw [hq] at hq'
  cases hq'
  have fq := hfq.1
  have v2 : wt_IV q.2.2 := wt_IV_cls v fq (fun k => (by (try dsimp only); first | omega | exact fun h => h | (intros; omega) | decide)) (fun i hi => (by (try dsimp only); first | omega | exact fun h => h | (intros; omega) | decide))
  obtain ⟨r', hr', hfr⟩ := wq_md_want n hn x1 x2 x3 x4 q.2.2 v2.1
  rw [hr] at hr'
  cases hr'
  have fr := hfr.1
  have rr : wt_RI r.2 := hfr.2
  obtain ⟨lcm, scm, sim⟩ := wu_midM j v.1 fq (fun k => by (try dsimp only); first | omega | exact fun h => h) (fun i h => by (try dsimp only); first | omega | exact fun h => h)
  obtain ⟨an, sc⟩ := wr_want n v2.1 (tx.1.trans (fq.1 108 39 (by (try dsimp only); first | omega | exact fun h => h)).symm) scm q r hq hr
  obtain ⟨lc, si⟩ := wu_LI_fr v.1 v2.1 j fq fr (fun i k h => by unfold wu_iF at h; (try dsimp only); first | omega | exact fun h => h) (fun i h => by unfold wu_iA at h; (try dsimp only); first | omega | exact fun h => h) (fun k => by (try dsimp only); first | omega | exact fun h => h) (fun i h => by (try dsimp only); first | omega | exact fun h => h) (fun i k h => by (try dsimp only); first | omega | exact fun h => h) (fun i h => by (try dsimp only); first | omega | exact fun h => h) (fun k h => by unfold wu_iG at h; (try dsimp only); first | omega | exact fun h => h) (fun i h => by unfold wu_iB at h; (try dsimp only); first | omega | exact fun h => h)
  exact ⟨an, lc, wu_endSC sc fr (fun i k h => by (try dsimp only); first | omega | exact fun h => h) (fun i h => by (try dsimp only); first | omega | exact fun h => h), si⟩
set_option maxHeartbeats 4000000 in
theorem wa2_set (n : Nat) (hn : 4294967297 < n) {σ : wt_St} (x1 x2 : Int32) (v : wt_IV σ) (to : wt_TO σ σ) (tx : wu_TX σ σ) (j : wu_RM σ) : wt_H (wp_ap_set n x1 x2 σ) (fun q => wt_H (wp_md_set n x1 x2 q.2.2) (fun r => ((q.1 = 2 ∧ wt_gf r.2 108 0 = 1) ∨ (q.1 = 1 ∧ wt_gf r.2 108 0 = 2) ∨ (q.1 = 0 ∧ wt_gf r.2 108 0 = 0 ∧ q.2.1 = r.1)) ∧ wu_RM r.2)) := by
  intro q hq r hr
  obtain ⟨q', hq', hfq⟩ := wq_ap_set n hn x1 x2 σ
  rw [hq] at hq'
  cases hq'
  have fq := hfq.1
  have v2 : wt_IV q.2.2 := wt_IV_cls v fq (fun k => (by (try dsimp only); first | omega | exact fun h => h | (intros; omega) | decide)) (fun i hi => (by (try dsimp only); first | omega | exact fun h => h | (intros; omega) | decide))
  obtain ⟨r', hr', hfr⟩ := wq_md_set n hn x1 x2 q.2.2 v2.1
  rw [hr] at hr'
  cases hr'
  have fr := hfr.1
  have rr : wt_RI r.2 := hfr.2
  obtain ⟨lcm, scm, sim⟩ := wu_midM j v.1 fq (fun k => by (try dsimp only); first | omega | exact fun h => h) (fun i h => by (try dsimp only); first | omega | exact fun h => h)
  obtain ⟨-, txm⟩ := wu_mid to tx v.1 fq (fun k => by (try dsimp only); first | omega | exact fun h => h) (fun i h => by (try dsimp only); first | omega | exact fun h => h)
  obtain ⟨an, sc⟩ := wr_set n hn v2 txm lcm scm q r hq hr
  obtain ⟨lc, si⟩ := wu_LI_fr v.1 v2.1 j fq fr (fun i k h => by unfold wu_iF at h; (try dsimp only); first | omega | exact fun h => h) (fun i h => by unfold wu_iA at h; (try dsimp only); first | omega | exact fun h => h) (fun k => by (try dsimp only); first | omega | exact fun h => h) (fun i h => by (try dsimp only); first | omega | exact fun h => h) (fun i k h => by (try dsimp only); first | omega | exact fun h => h) (fun i h => by (try dsimp only); first | omega | exact fun h => h) (fun k h => by unfold wu_iG at h; (try dsimp only); first | omega | exact fun h => h) (fun i h => by unfold wu_iB at h; (try dsimp only); first | omega | exact fun h => h)
  exact ⟨an, lc, wu_endSC sc fr (fun i k h => by (try dsimp only); first | omega | exact fun h => h) (fun i h => by (try dsimp only); first | omega | exact fun h => h), si⟩
set_option maxHeartbeats 4000000 in
theorem wa2_print (n : Nat) (hn : 4294967297 < n) {σ : wt_St} (x1 x2 : Int32) (v : wt_IV σ) (j : wu_RM σ) : wt_H (wp_ap_print n x1 x2 σ) (fun q => wt_H (wp_md_print n x1 x2 q.2.2) (fun r => ((q.1 = 2 ∧ wt_gf r.2 108 0 = 1) ∨ (q.1 = 1 ∧ wt_gf r.2 108 0 = 2) ∨ (q.1 = 0 ∧ wt_gf r.2 108 0 = 0 ∧ q.2.1 = r.1)) ∧ wu_RM r.2)) := by
  intro q hq r hr
  obtain ⟨q', hq', hfq⟩ := wq_ap_print n hn x1 x2 σ
  rw [hq] at hq'
  cases hq'
  have fq := hfq.1
  have v2 : wt_IV q.2.2 := wt_IV_cls v fq (fun k => (by (try dsimp only); first | omega | exact fun h => h | (intros; omega) | decide)) (fun i hi => (by (try dsimp only); first | omega | exact fun h => h | (intros; omega) | decide))
  obtain ⟨r', hr', hfr⟩ := wq_md_print n hn x1 x2 q.2.2 v2.1 v2.2.2.2.1
  rw [hr] at hr'
  cases hr'
  have fr := hfr.1
  have rr : wt_RI r.2 := hfr.2
  obtain ⟨lcm, scm, sim⟩ := wu_midM j v.1 fq (fun k => by (try dsimp only); first | omega | exact fun h => h) (fun i h => by (try dsimp only); first | omega | exact fun h => h)
  obtain ⟨an, sc⟩ := wr_print n hn v2 scm q r hq hr
  obtain ⟨lc, si⟩ := wu_LI_fr v.1 v2.1 j fq fr (fun i k h => by unfold wu_iF at h; (try dsimp only); first | omega | exact fun h => h) (fun i h => by unfold wu_iA at h; (try dsimp only); first | omega | exact fun h => h) (fun k => by (try dsimp only); first | omega | exact fun h => h) (fun i h => by (try dsimp only); first | omega | exact fun h => h) (fun i k h => by (try dsimp only); first | omega | exact fun h => h) (fun i h => by (try dsimp only); first | omega | exact fun h => h) (fun k h => by unfold wu_iG at h; (try dsimp only); first | omega | exact fun h => h) (fun i h => by unfold wu_iB at h; (try dsimp only); first | omega | exact fun h => h)
  exact ⟨an, lc, wu_endSC sc fr (fun i k h => by (try dsimp only); first | omega | exact fun h => h) (fun i h => by (try dsimp only); first | omega | exact fun h => h), si⟩
set_option maxHeartbeats 4000000 in
theorem wa2_apart (n : Nat) (hn : 4294967297 < n) {σ : wt_St} (x1 : Int32) (v : wt_IV σ) (j : wu_RM σ) : wt_H (wp_ap_apart n x1 σ) (fun q => wt_H (wp_md_apart n x1 q.2.2) (fun r => ((q.1 = 2 ∧ wt_gf r.2 108 0 = 1) ∨ (q.1 = 0 ∧ wt_gf r.2 108 0 = 0 ∧ q.2.1 = r.1)) ∧ wu_RM r.2)) := by
  intro q hq r hr
  obtain ⟨q', hq', hfq⟩ := wq_ap_apart n hn x1 σ
  rw [hq] at hq'
  cases hq'
  have fq := hfq.1
  have v2 : wt_IV q.2.2 := wt_IV_cls v fq (fun k => (by (try dsimp only); first | omega | exact fun h => h | (intros; omega) | decide)) (fun i hi => (by (try dsimp only); first | omega | exact fun h => h | (intros; omega) | decide))
  obtain ⟨r', hr', hfr⟩ := wq_md_apart n hn x1 q.2.2 v2.1
  rw [hr] at hr'
  cases hr'
  have fr := hfr.1
  have rr : wt_RI r.2 := hfr.2
  obtain ⟨lcm, scm, sim⟩ := wu_midM j v.1 fq (fun k => by (try dsimp only); first | omega | exact fun h => h) (fun i h => by (try dsimp only); first | omega | exact fun h => h)
  obtain ⟨an, sc⟩ := wr_apart n hn v2 scm q r hq hr
  obtain ⟨lc, si⟩ := wu_LI_fr v.1 v2.1 j fq fr (fun i k h => by unfold wu_iF at h; (try dsimp only); first | omega | exact fun h => h) (fun i h => by unfold wu_iA at h; (try dsimp only); first | omega | exact fun h => h) (fun k => by (try dsimp only); first | omega | exact fun h => h) (fun i h => by (try dsimp only); first | omega | exact fun h => h) (fun i k h => by (try dsimp only); first | omega | exact fun h => h) (fun i h => by (try dsimp only); first | omega | exact fun h => h) (fun k h => by unfold wu_iG at h; (try dsimp only); first | omega | exact fun h => h) (fun i h => by unfold wu_iB at h; (try dsimp only); first | omega | exact fun h => h)
  exact ⟨an, lc, wu_endSC sc fr (fun i k h => by (try dsimp only); first | omega | exact fun h => h) (fun i h => by (try dsimp only); first | omega | exact fun h => h), si⟩
set_option maxHeartbeats 4000000 in
theorem wa2_forget (n : Nat) (hn : 4294967297 < n) {σ : wt_St} (v : wt_IV σ) (j : wu_RM σ) : wt_H (wp_ap_forget n σ) (fun q => wt_H (wp_md_forget n q.2) (fun r => q.1 = r.1 ∧ wu_RM r.2)) := by
  intro q hq r hr
  obtain ⟨q', hq', hfq⟩ := wq_ap_forget n hn σ
  rw [hq] at hq'
  cases hq'
  have fq := hfq
  have v2 : wt_IV q.2 := wt_IV_cls v fq (fun k => (by (try dsimp only); first | omega | exact fun h => h | (intros; omega) | decide)) (fun i hi => (by (try dsimp only); first | omega | exact fun h => h | (intros; omega) | decide))
  obtain ⟨r', hr', hfr⟩ := wq_md_forget n hn q.2 v2.1
  rw [hr] at hr'
  cases hr'
  have fr := hfr.1
  have rr : wt_RI r.2 := hfr.2
  obtain ⟨lcm, scm, sim⟩ := wu_midM j v.1 fq (fun k => by (try dsimp only); first | omega | exact fun h => h) (fun i h => by (try dsimp only); first | omega | exact fun h => h)
  obtain ⟨an, sc⟩ := wr_forget n scm q r hq hr
  obtain ⟨lc, si⟩ := wu_LI_fr v.1 v2.1 j fq fr (fun i k h => by unfold wu_iF at h; (try dsimp only); first | omega | exact fun h => h) (fun i h => by unfold wu_iA at h; (try dsimp only); first | omega | exact fun h => h) (fun k => by (try dsimp only); first | omega | exact fun h => h) (fun i h => by (try dsimp only); first | omega | exact fun h => h) (fun i k h => by (try dsimp only); first | omega | exact fun h => h) (fun i h => by (try dsimp only); first | omega | exact fun h => h) (fun k h => by unfold wu_iG at h; (try dsimp only); first | omega | exact fun h => h) (fun i h => by unfold wu_iB at h; (try dsimp only); first | omega | exact fun h => h)
  exact ⟨an, lc, wu_endSC sc fr (fun i k h => by (try dsimp only); first | omega | exact fun h => h) (fun i h => by (try dsimp only); first | omega | exact fun h => h), si⟩
set_option maxHeartbeats 4000000 in
theorem wk2_kase (n : Nat) (hn : 4294967297 < n) {σ : wt_St} (x1 : Int32) (v : wt_IV σ) (ti : (wt_gf σ 1 2).toInt = (wt_gf σ 108 1).toInt) (jt : wt_JT σ) (j : wu_RM σ) : wt_H (wp_ap_kase n x1 σ) (fun q => wt_H (wp_md_kase n x1 q.2.2) (fun r => wu_RM r.2)) := by
  intro q hq r hr
  obtain ⟨q', hq', hfq⟩ := wq_ap_kase n hn x1 σ
  rw [hq] at hq'
  cases hq'
  have fq := hfq.1
  have v2 : wt_IV q.2.2 := wt_IV_cls v fq (fun k => (by (try dsimp only); first | omega | exact fun h => h | (intros; omega) | decide)) (fun i hi => (by (try dsimp only); first | omega | exact fun h => h | (intros; omega) | decide))
  obtain ⟨r', hr', hfr⟩ := wq_md_kase n hn x1 q.2.2 v2.1 v2.2.1
  rw [hr] at hr'
  cases hr'
  have fr := hfr.1
  have rr : wt_RI r.2 := hfr.2.1
  obtain ⟨lcm, scm, sim⟩ := wu_midM j v.1 fq (fun k => by (try dsimp only); first | omega | exact fun h => h) (fun i h => by (try dsimp only); first | omega | exact fun h => h)
  have tb : wt_TB σ q.2.2 := ⟨fun i hi => by rw [fq.2 109 (by (try dsimp only); omega)]; exact jt i hi, wt_eqI (by rw [fq.1 108 1 (by (try dsimp only); omega)]; exact ti)⟩
  obtain ⟨-, a, b, c⟩ := wr_kaseR n hn v2 tb lcm scm sim q r hq hr
  exact ⟨wu_endLC a fr (fun i k h => by (try dsimp only); first | omega | exact fun h => h) (fun i h => by (try dsimp only); first | omega | exact fun h => h), wu_endSC b fr (fun i k h => by (try dsimp only); first | omega | exact fun h => h) (fun i h => by (try dsimp only); first | omega | exact fun h => h), wu_endSI c rr fr (fun i k h => by (try dsimp only); first | omega | exact fun h => h) (fun i h => by (try dsimp only); first | omega | exact fun h => h)⟩
set_option maxHeartbeats 4000000 in
theorem wk2_tongue (n : Nat) (hn : 4294967297 < n) {σ : wt_St} (x1 : Int32) (v : wt_IV σ) (ti : (wt_gf σ 1 2).toInt = (wt_gf σ 108 1).toInt) (jt : wt_JT σ) (j : wu_RM σ) : wt_H (wp_ap_tongue n x1 σ) (fun q => wt_H (wp_md_tongue n x1 q.2.2) (fun r => wu_RM r.2)) := by
  intro q hq r hr
  obtain ⟨q', hq', hfq⟩ := wq_ap_tongue n hn x1 σ
  rw [hq] at hq'
  cases hq'
  have fq := hfq.1
  have v2 : wt_IV q.2.2 := wt_IV_cls v fq (fun k => (by (try dsimp only); first | omega | exact fun h => h | (intros; omega) | decide)) (fun i hi => (by (try dsimp only); first | omega | exact fun h => h | (intros; omega) | decide))
  obtain ⟨r', hr', hfr⟩ := wq_md_tongue n hn x1 q.2.2 v2.1
  rw [hr] at hr'
  cases hr'
  have fr := hfr.1
  have rr : wt_RI r.2 := hfr.2.1
  obtain ⟨lcm, scm, sim⟩ := wu_midM j v.1 fq (fun k => by (try dsimp only); first | omega | exact fun h => h) (fun i h => by (try dsimp only); first | omega | exact fun h => h)
  have tb : wt_TB σ q.2.2 := ⟨fun i hi => by rw [fq.2 109 (by (try dsimp only); omega)]; exact jt i hi, wt_eqI (by rw [fq.1 108 1 (by (try dsimp only); omega)]; exact ti)⟩
  obtain ⟨a, b, c⟩ := wr_tongueR n hn v2 tb lcm scm sim q r hq hr
  exact ⟨wu_endLC a fr (fun i k h => by (try dsimp only); first | omega | exact fun h => h) (fun i h => by (try dsimp only); first | omega | exact fun h => h), wu_endSC b fr (fun i k h => by (try dsimp only); first | omega | exact fun h => h) (fun i h => by (try dsimp only); first | omega | exact fun h => h), wu_endSI c rr fr (fun i k h => by (try dsimp only); first | omega | exact fun h => h) (fun i h => by (try dsimp only); first | omega | exact fun h => h)⟩
set_option maxHeartbeats 4000000 in
theorem wk2_image (n : Nat) (hn : 4294967297 < n) {σ : wt_St} (v : wt_IV σ) (j : wu_RM σ) : wt_H (wp_ap_image n σ) (fun q => wt_H (wp_md_image n q.2) (fun r => wu_RM r.2)) := by
  intro q hq r hr
  obtain ⟨q', hq', hfq⟩ := wq_ap_image n hn σ
  rw [hq] at hq'
  cases hq'
  have fq := hfq
  have v2 : wt_IV q.2 := wt_IV_cls v fq (fun k => (by (try dsimp only); first | omega | exact fun h => h | (intros; omega) | decide)) (fun i hi => (by (try dsimp only); first | omega | exact fun h => h | (intros; omega) | decide))
  have fr := wf_md_image n hn v2 r hr
  have rr : wt_RI r.2 := (((wq_md_image n hn q.2 v2).h) r hr).1.1
  obtain ⟨lcm, scm, sim⟩ := wu_midM j v.1 fq (fun k => by (try dsimp only); first | omega | exact fun h => h) (fun i h => by (try dsimp only); first | omega | exact fun h => h)
  obtain ⟨-, sc, si⟩ := wr_image n hn v2 scm sim q r hq hr
  have lcq : wu_LC q.2 q.2 := wu_LC_fr j.1 fq fq (by (try dsimp only); first | omega | exact fun h => h) (fun i h => by (try dsimp only); first | omega | exact fun h => h) (by (try dsimp only); first | omega | exact fun h => h) (fun i h => by (try dsimp only); first | omega | exact fun h => h)
  have lc : wu_LC r.2 r.2 := wu_LC_fr lcq fr fr (by unfold wt_iF; omega) (fun i h => by unfold wt_iA; omega) (by unfold wt_iF; omega) (fun i h => by unfold wt_iA; omega)
  exact ⟨lc, wu_endSC sc fr (fun i k h => by unfold wt_iF; omega) (fun i h => by unfold wt_iA; omega), wu_endSI si rr fr (fun i k h => by unfold wt_iF; omega) (fun i h => by unfold wt_iA; omega)⟩
set_option maxHeartbeats 4000000 in
theorem wk2_restore (n : Nat) (hn : 4294967297 < n) {σ : wt_St} (v : wt_IV σ) (j : wu_RM σ) : wt_H (wp_ap_restore n σ) (fun q => wt_H (wp_md_restore n q.2) (fun r => wu_RM r.2)) := by
  intro q hq r hr
  obtain ⟨q', hq', hfq⟩ := wq_ap_restore n hn σ
  rw [hq] at hq'
  cases hq'
  have fq := hfq
  have v2 : wt_IV q.2 := wt_IV_cls v fq (fun k => (by (try dsimp only); first | omega | exact fun h => h | (intros; omega) | decide)) (fun i hi => (by (try dsimp only); first | omega | exact fun h => h | (intros; omega) | decide))
  have fr := wf_md_restore n hn v2 r hr
  have rr : wt_RI r.2 := (((wq_md_restore n hn q.2 v2).h) r hr).1.1
  obtain ⟨lcm, scm, sim⟩ := wu_midM j v.1 fq (fun k => by (try dsimp only); first | omega | exact fun h => h) (fun i h => by (try dsimp only); first | omega | exact fun h => h)
  obtain ⟨-, sc, si⟩ := wr_restore n hn v2 scm sim q r hq hr
  have lcq : wu_LC q.2 q.2 := wu_LC_fr j.1 fq fq (by (try dsimp only); first | omega | exact fun h => h) (fun i h => by (try dsimp only); first | omega | exact fun h => h) (by (try dsimp only); first | omega | exact fun h => h) (fun i h => by (try dsimp only); first | omega | exact fun h => h)
  have lc : wu_LC r.2 r.2 := wu_LC_fr lcq fr fr (by unfold wt_iF; omega) (fun i h => by unfold wt_iA; omega) (by unfold wt_iF; omega) (fun i h => by unfold wt_iA; omega)
  exact ⟨lc, wu_endSC sc fr (fun i k h => by unfold wt_iF; omega) (fun i h => by unfold wt_iA; omega), wu_endSI si rr fr (fun i k h => by unfold wt_iF; omega) (fun i h => by unfold wt_iA; omega)⟩
set_option maxHeartbeats 4000000 in
theorem wk2_text (n : Nat) (hn : 4294967297 < n) {σ : wt_St} (x1 : Int32) (v : wt_IV σ) (j : wu_RM σ) : wt_H (wp_ap_text n x1 σ) (fun q => wt_H (wp_md_text n x1 q.2.2) (fun r => wu_RM r.2)) := by
  intro q hq r hr
  obtain ⟨q', hq', hfq⟩ := wq_ap_text n hn x1 σ
  rw [hq] at hq'
  cases hq'
  have fq := hfq.1
  have v2 : wt_IV q.2.2 := wt_IV_cls v fq (fun k => by (try dsimp only); omega) (fun i hi => by (try dsimp only); omega)
  obtain ⟨r', hr', hfr⟩ := wq_md_text n hn x1 q.2.2 v2.1
  rw [hr] at hr'
  cases hr'
  have fr := hfr.1
  have x := wq_md_textH n hn x1 q.2.2 v2.1 r hr
  obtain ⟨a, b, c⟩ := j
  have g41 : 0 ≤ (wt_gf q.2.2 108 41).toInt ∧ (wt_gf q.2.2 108 41).toInt ≤ 3 := wt_Rf9 v2.1
  have g41' : 0 ≤ (wt_gf σ 108 41).toInt ∧ (wt_gf σ 108 41).toInt ≤ 3 := wt_Rf9 v.1
  have a1 : wu_LC q.2.2 q.2.2 := wu_LC_fr a fq fq (by (try dsimp only); omega) (fun i h => by (try dsimp only); omega) (by (try dsimp only); omega) (fun i h => by (try dsimp only); omega)
  have b1 : wu_SC q.2.2 q.2.2 := wu_SC_fr b fq fq (fun k hk => by (try dsimp only); omega) (fun k hk => by (try dsimp only); omega) (fun i p q => by (try dsimp only); omega) (fun i hi => by (try dsimp only); omega)
  have c1 : wu_SI q.2.2 q.2.2 := wu_SI_fr c fq fq g41'.2 (fun i k h => by (try dsimp only); omega) (fun k h => by (try dsimp only); omega) (fun i p q => by (try dsimp only); omega) (fun i h => by (try dsimp only); omega)
  refine ⟨wu_LC_fr a1 fr fr (by (try dsimp only); omega) (fun i h => by (try dsimp only); omega) (by (try dsimp only); omega) (fun i h => by (try dsimp only); omega), ?_, ?_⟩
  · exact wu_SC_eq b1 (fun i p q => fr.2 i (by (try dsimp only); omega)) (fun i hi => fr.2 i (by (try dsimp only); omega)) (fun k hk => fr.1 39 k (by (try dsimp only); omega)) (fun k hk => fr.1 108 k (by (try dsimp only); omega)) x.1
  · exact wu_SI_eq c1 (fr.1 0 14 (by (try dsimp only); omega)) (fr.1 108 41 (by (try dsimp only); omega)) (fun i p q => fr.2 i (by (try dsimp only); omega)) (fun i hi => ⟨fr.1 i 8 (by (try dsimp only); omega), fr.1 i 9 (by (try dsimp only); omega)⟩) (fun i p q => fr.2 i (by (try dsimp only); omega)) (fr.2 111 (by (try dsimp only); omega)) x.1 g41.2
end WTQ1
