-- 88.ops.lean.txt
section WTQ0
/-! the 36 calls: both sides end, and what holds between the calls holds again -/
def wt_C_feed (n : Nat) (Inv : wt_St → Prop) : Prop := ∀ (σ : wt_St) (x1 x2 x3 x4 x5 : Int32), Inv σ → ∃ q : Int32 × wt_St, wp_ap_feed n x1 x2 x3 x4 x5 σ = some q ∧ ∃ r : Int32 × wt_St, wp_md_feed n x1 x2 x3 x4 x5 q.2 = some r ∧ Inv r.2
def wt_C_kase (n : Nat) (Inv : wt_St → Prop) : Prop := ∀ (σ : wt_St) (x1 : Int32), Inv σ → ∃ q : Nat × Int32 × wt_St, wp_ap_kase n x1 σ = some q ∧ (q.1 = 0 ∨ q.1 = 1) ∧ ∃ r : Int32 × wt_St, wp_md_kase n x1 q.2.2 = some r ∧ Inv r.2
def wt_C_tongue (n : Nat) (Inv : wt_St → Prop) : Prop := ∀ (σ : wt_St) (x1 : Int32), Inv σ → ∃ q : Nat × Int32 × wt_St, wp_ap_tongue n x1 σ = some q ∧ (q.1 = 0 ∨ q.1 = 1) ∧ ∃ r : Int32 × wt_St, wp_md_tongue n x1 q.2.2 = some r ∧ Inv r.2
def wt_C_text (n : Nat) (Inv : wt_St → Prop) : Prop := ∀ (σ : wt_St) (x1 : Int32), Inv σ → ∃ q : Nat × Int32 × wt_St, wp_ap_text n x1 σ = some q ∧ (q.1 = 0 ∨ q.1 = 1) ∧ ∃ r : Int32 × wt_St, wp_md_text n x1 q.2.2 = some r ∧ Inv r.2
def wt_C_fault (n : Nat) (Inv : wt_St → Prop) : Prop := ∀ (σ : wt_St), Inv σ → ∃ q : Int32 × wt_St, wp_ap_fault n σ = some q ∧ ∃ r : Int32 × wt_St, wp_md_fault n q.2 = some r ∧ Inv r.2
def wt_C_told (n : Nat) (Inv : wt_St → Prop) : Prop := ∀ (σ : wt_St) (x1 : Int32), Inv σ → ∃ q : Nat × Int32 × wt_St, wp_ap_told n x1 σ = some q ∧ (q.1 = 0 ∨ q.1 = 1) ∧ ∃ r : Int32 × wt_St, wp_md_told n x1 q.2.2 = some r ∧ Inv r.2
def wt_C_letter (n : Nat) (Inv : wt_St → Prop) : Prop := ∀ (σ : wt_St) (x1 x2 : Int32), Inv σ → ∃ q : Nat × Int32 × wt_St, wp_ap_letter n x1 x2 σ = some q ∧ (q.1 = 0 ∨ q.1 = 1) ∧ ∃ r : Int32 × wt_St, wp_md_letter n x1 x2 q.2.2 = some r ∧ Inv r.2
def wt_C_piece (n : Nat) (Inv : wt_St → Prop) : Prop := ∀ (σ : wt_St) (x1 x2 x3 : Int32), Inv σ → ∃ q : Nat × Int32 × wt_St, wp_ap_piece n x1 x2 x3 σ = some q ∧ (q.1 = 0 ∨ q.1 = 3 ∨ q.1 = 1) ∧ ∃ r : Int32 × wt_St, wp_md_piece n x1 x2 x3 q.2.2 = some r ∧ Inv r.2
def wt_C_word (n : Nat) (Inv : wt_St → Prop) : Prop := ∀ (σ : wt_St) (x1 x2 : Int32), Inv σ → ∃ q : Nat × Int32 × wt_St, wp_ap_word n x1 x2 σ = some q ∧ (q.1 = 0 ∨ q.1 = 2 ∨ q.1 = 1) ∧ ∃ r : Int32 × wt_St, wp_md_word n x1 x2 q.2.2 = some r ∧ Inv r.2
def wt_C_at (n : Nat) (Inv : wt_St → Prop) : Prop := ∀ (σ : wt_St) (x1 x2 : Int32), Inv σ → ∃ q : Nat × Int32 × wt_St, wp_ap_at n x1 x2 σ = some q ∧ (q.1 = 0 ∨ q.1 = 2) ∧ ∃ r : Int32 × wt_St, wp_md_at n x1 x2 q.2.2 = some r ∧ Inv r.2
def wt_C_needs (n : Nat) (Inv : wt_St → Prop) : Prop := ∀ (σ : wt_St) (x1 x2 : Int32), Inv σ → ∃ q : Nat × Int32 × wt_St, wp_ap_needs n x1 x2 σ = some q ∧ (q.1 = 0 ∨ q.1 = 2 ∨ q.1 = 1) ∧ ∃ r : Int32 × wt_St, wp_md_needs n x1 x2 q.2.2 = some r ∧ Inv r.2
def wt_C_habit (n : Nat) (Inv : wt_St → Prop) : Prop := ∀ (σ : wt_St) (x1 : Int32), Inv σ → ∃ q : Nat × Int32 × wt_St, wp_ap_habit n x1 σ = some q ∧ (q.1 = 0 ∨ q.1 = 1) ∧ ∃ r : Int32 × wt_St, wp_md_habit n x1 q.2.2 = some r ∧ Inv r.2
def wt_C_can (n : Nat) (Inv : wt_St → Prop) : Prop := ∀ (σ : wt_St) (x1 : Int32), Inv σ → ∃ q : Nat × Int32 × wt_St, wp_ap_can n x1 σ = some q ∧ (q.1 = 0 ∨ q.1 = 2) ∧ ∃ r : Int32 × wt_St, wp_md_can n x1 q.2.2 = some r ∧ Inv r.2
def wt_C_lacks (n : Nat) (Inv : wt_St → Prop) : Prop := ∀ (σ : wt_St) (x1 x2 : Int32), Inv σ → ∃ q : Nat × Int32 × wt_St, wp_ap_lacks n x1 x2 σ = some q ∧ (q.1 = 0 ∨ q.1 = 2 ∨ q.1 = 1) ∧ ∃ r : Int32 × wt_St, wp_md_lacks n x1 x2 q.2.2 = some r ∧ Inv r.2
def wt_C_set (n : Nat) (Inv : wt_St → Prop) : Prop := ∀ (σ : wt_St) (x1 x2 : Int32), Inv σ → ∃ q : Nat × Int32 × wt_St, wp_ap_set n x1 x2 σ = some q ∧ (q.1 = 0 ∨ q.1 = 2 ∨ q.1 = 1) ∧ ∃ r : Int32 × wt_St, wp_md_set n x1 x2 q.2.2 = some r ∧ Inv r.2
def wt_C_print (n : Nat) (Inv : wt_St → Prop) : Prop := ∀ (σ : wt_St) (x1 x2 : Int32), Inv σ → ∃ q : Nat × Int32 × wt_St, wp_ap_print n x1 x2 σ = some q ∧ (q.1 = 0 ∨ q.1 = 2 ∨ q.1 = 1) ∧ ∃ r : Int32 × wt_St, wp_md_print n x1 x2 q.2.2 = some r ∧ Inv r.2
def wt_C_apart (n : Nat) (Inv : wt_St → Prop) : Prop := ∀ (σ : wt_St) (x1 : Int32), Inv σ → ∃ q : Nat × Int32 × wt_St, wp_ap_apart n x1 σ = some q ∧ (q.1 = 0 ∨ q.1 = 2) ∧ ∃ r : Int32 × wt_St, wp_md_apart n x1 q.2.2 = some r ∧ Inv r.2
def wt_C_page (n : Nat) (Inv : wt_St → Prop) : Prop := ∀ (σ : wt_St) (x1 x2 : Int32), Inv σ → ∃ q : Nat × Int32 × wt_St, wp_ap_page n x1 x2 σ = some q ∧ (q.1 = 0 ∨ q.1 = 2 ∨ q.1 = 1) ∧ ∃ r : Int32 × wt_St, wp_md_page n x1 x2 q.2.2 = some r ∧ Inv r.2
def wt_C_read (n : Nat) (Inv : wt_St → Prop) : Prop := ∀ (σ : wt_St) (x1 x2 : Int32), Inv σ → ∃ q : Nat × Int32 × wt_St, wp_ap_read n x1 x2 σ = some q ∧ (q.1 = 0 ∨ q.1 = 2) ∧ ∃ r : Int32 × wt_St, wp_md_read n x1 x2 q.2.2 = some r ∧ Inv r.2
def wt_C_least (n : Nat) (Inv : wt_St → Prop) : Prop := ∀ (σ : wt_St) (x1 x2 x3 : Int32), Inv σ → ∃ q : Nat × Int32 × wt_St, wp_ap_least n x1 x2 x3 σ = some q ∧ (q.1 = 0 ∨ q.1 = 2 ∨ q.1 = 1) ∧ ∃ r : Int32 × wt_St, wp_md_least n x1 x2 x3 q.2.2 = some r ∧ Inv r.2
def wt_C_fitting (n : Nat) (Inv : wt_St → Prop) : Prop := ∀ (σ : wt_St) (x1 x2 x3 x4 : Int32), Inv σ → ∃ q : Nat × Int32 × wt_St, wp_ap_fitting n x1 x2 x3 x4 σ = some q ∧ (q.1 = 0 ∨ q.1 = 2 ∨ q.1 = 1) ∧ ∃ r : Int32 × wt_St, wp_md_fitting n x1 x2 x3 x4 q.2.2 = some r ∧ Inv r.2
def wt_C_wordings (n : Nat) (Inv : wt_St → Prop) : Prop := ∀ (σ : wt_St) (x1 : Int32), Inv σ → ∃ q : Nat × Int32 × wt_St, wp_ap_wordings n x1 σ = some q ∧ (q.1 = 0 ∨ q.1 = 2) ∧ ∃ r : Int32 × wt_St, wp_md_wordings n x1 q.2.2 = some r ∧ Inv r.2
def wt_C_want (n : Nat) (Inv : wt_St → Prop) : Prop := ∀ (σ : wt_St) (x1 x2 x3 x4 : Int32), Inv σ → ∃ q : Nat × Int32 × wt_St, wp_ap_want n x1 x2 x3 x4 σ = some q ∧ (q.1 = 0 ∨ q.1 = 2 ∨ q.1 = 1) ∧ ∃ r : Int32 × wt_St, wp_md_want n x1 x2 x3 x4 q.2.2 = some r ∧ Inv r.2
def wt_C_forget (n : Nat) (Inv : wt_St → Prop) : Prop := ∀ (σ : wt_St), Inv σ → ∃ q : Int32 × wt_St, wp_ap_forget n σ = some q ∧ ∃ r : Int32 × wt_St, wp_md_forget n q.2 = some r ∧ Inv r.2
def wt_C_most (n : Nat) (Inv : wt_St → Prop) : Prop := ∀ (σ : wt_St) (x1 : Int32), Inv σ → ∃ q : Nat × Int32 × wt_St, wp_ap_most n x1 σ = some q ∧ (q.1 = 0 ∨ q.1 = 1) ∧ ∃ r : Int32 × wt_St, wp_md_most n x1 q.2.2 = some r ∧ Inv r.2
def wt_C_greedy (n : Nat) (Inv : wt_St → Prop) : Prop := ∀ (σ : wt_St) (x1 : Int32), Inv σ → ∃ q : Nat × Int32 × wt_St, wp_ap_greedy n x1 σ = some q ∧ (q.1 = 0 ∨ q.1 = 1) ∧ ∃ r : Int32 × wt_St, wp_md_greedy n x1 q.2.2 = some r ∧ Inv r.2
def wt_C_bound (n : Nat) (Inv : wt_St → Prop) : Prop := ∀ (σ : wt_St), Inv σ → ∃ q : Int32 × wt_St, wp_ap_bound n σ = some q ∧ ∃ r : Int32 × wt_St, wp_md_bound n q.2 = some r ∧ Inv r.2
def wt_C_said (n : Nat) (Inv : wt_St → Prop) : Prop := ∀ (σ : wt_St) (x1 x2 : Int32), Inv σ → ∃ q : Nat × Int32 × wt_St, wp_ap_said n x1 x2 σ = some q ∧ (q.1 = 0 ∨ q.1 = 2 ∨ q.1 = 1) ∧ ∃ r : Int32 × wt_St, wp_md_said n x1 x2 q.2.2 = some r ∧ Inv r.2
def wt_C_lost (n : Nat) (Inv : wt_St → Prop) : Prop := ∀ (σ : wt_St) (x1 : Int32), Inv σ → ∃ q : Nat × Int32 × wt_St, wp_ap_lost n x1 σ = some q ∧ (q.1 = 0 ∨ q.1 = 1) ∧ ∃ r : Int32 × wt_St, wp_md_lost n x1 q.2.2 = some r ∧ Inv r.2
def wt_C_ends (n : Nat) (Inv : wt_St → Prop) : Prop := ∀ (σ : wt_St) (x1 : Int32), Inv σ → ∃ q : Nat × Int32 × wt_St, wp_ap_ends n x1 σ = some q ∧ (q.1 = 0 ∨ q.1 = 2) ∧ ∃ r : Int32 × wt_St, wp_md_ends n x1 q.2.2 = some r ∧ Inv r.2
def wt_C_exchange (n : Nat) (Inv : wt_St → Prop) : Prop := ∀ (σ : wt_St) (x1 : Int32), Inv σ → ∃ q : Nat × Int32 × wt_St, wp_ap_exchange n x1 σ = some q ∧ (q.1 = 0 ∨ q.1 = 2) ∧ ∃ r : Int32 × wt_St, wp_md_exchange n x1 q.2.2 = some r ∧ Inv r.2
def wt_C_cast (n : Nat) (Inv : wt_St → Prop) : Prop := ∀ (σ : wt_St) (x1 x2 : Int32), Inv σ → ∃ q : Nat × Int32 × wt_St, wp_ap_cast n x1 x2 σ = some q ∧ (q.1 = 0 ∨ q.1 = 2 ∨ q.1 = 1) ∧ ∃ r : Int32 × wt_St, wp_md_cast n x1 x2 q.2.2 = some r ∧ Inv r.2
def wt_C_together (n : Nat) (Inv : wt_St → Prop) : Prop := ∀ (σ : wt_St) (x1 : Int32), Inv σ → ∃ q : Nat × Int32 × wt_St, wp_ap_together n x1 σ = some q ∧ (q.1 = 0 ∨ q.1 = 1) ∧ ∃ r : Int32 × wt_St, wp_md_together n x1 q.2.2 = some r ∧ Inv r.2
def wt_C_image (n : Nat) (Inv : wt_St → Prop) : Prop := ∀ (σ : wt_St), Inv σ → ∃ q : Int32 × wt_St, wp_ap_image n σ = some q ∧ ∃ r : Int32 × wt_St, wp_md_image n q.2 = some r ∧ Inv r.2
def wt_C_restore (n : Nat) (Inv : wt_St → Prop) : Prop := ∀ (σ : wt_St), Inv σ → ∃ q : Int32 × wt_St, wp_ap_restore n σ = some q ∧ ∃ r : Int32 × wt_St, wp_md_restore n q.2 = some r ∧ Inv r.2
def wt_C_count (n : Nat) (Inv : wt_St → Prop) : Prop := ∀ (σ : wt_St) (x1 : Int32), Inv σ → ∃ q : Int32 × wt_St, wp_ap_count n x1 σ = some q ∧ ∃ r : Int32 × wt_St, wp_md_count n x1 q.2 = some r ∧ Inv r.2
/-- what holds between the calls, and both tapes are as long -/
def wt_Inv (σ : wt_St) : Prop := wt_IV σ ∧ (wt_gf σ 1 2).toInt = (wt_gf σ 108 1).toInt
set_option maxHeartbeats 4000000 in
theorem wq_C_fault (n : Nat) (hn : 4294967297 < n) : wt_C_fault n wt_Inv := by
  intro σ hI
  obtain ⟨q, hq, hc⟩ := wq_ap_fault n hn σ
  have fq := hc
  have v : wt_IV q.2 := by rw [fq]; exact hI.1
  have t1 : (wt_gf q.2 1 2).toInt = (wt_gf q.2 108 1).toInt := by rw [fq]; exact hI.2
  obtain ⟨r, hr, hm⟩ := wq_md_fault n hn q.2 v.1
  obtain ⟨fr, rr⟩ := hm
  refine ⟨q, hq, r, hr, ?_, ?_⟩
  · exact wt_IV_fr v rr fr (by (try dsimp only); first | omega | exact fun h => h) (by (try dsimp only); first | omega | exact fun h => h) (fun i hi => by unfold wt_PA at hi; first | (dsimp only; omega) | omega | exact fun h => h)
  · rw [fr.1 1 2 (by (try dsimp only); first | omega | exact fun h => h), fr.1 108 1 (by (try dsimp only); first | omega | exact fun h => h)]; exact t1
set_option maxHeartbeats 4000000 in
theorem wq_C_told (n : Nat) (hn : 4294967297 < n) : wt_C_told n wt_Inv := by
  intro σ x1 hI
  obtain ⟨q, hq, hc⟩ := wq_ap_told n hn x1 σ
  obtain ⟨fq, cq⟩ := hc
  have v : wt_IV q.2.2 := by rw [fq]; exact hI.1
  have t1 : (wt_gf q.2.2 1 2).toInt = (wt_gf q.2.2 108 1).toInt := by rw [fq]; exact hI.2
  obtain ⟨r, hr, hm⟩ := wq_md_told n hn x1 q.2.2 v.1
  obtain ⟨fr, rr⟩ := hm
  refine ⟨q, hq, ?_, r, hr, ?_, ?_⟩
  · omega
  · exact wt_IV_fr v rr fr (by (try dsimp only); first | omega | exact fun h => h) (by (try dsimp only); first | omega | exact fun h => h) (fun i hi => by unfold wt_PA at hi; first | (dsimp only; omega) | omega | exact fun h => h)
  · rw [fr.1 1 2 (by (try dsimp only); first | omega | exact fun h => h), fr.1 108 1 (by (try dsimp only); first | omega | exact fun h => h)]; exact t1
set_option maxHeartbeats 4000000 in
theorem wq_C_letter (n : Nat) (hn : 4294967297 < n) : wt_C_letter n wt_Inv := by
  intro σ x1 x2 hI
  obtain ⟨q, hq, hc⟩ := wq_ap_letter n hn x1 x2 σ
  obtain ⟨fq, cq⟩ := hc
  have v : wt_IV q.2.2 := by rw [fq]; exact hI.1
  have t1 : (wt_gf q.2.2 1 2).toInt = (wt_gf q.2.2 108 1).toInt := by rw [fq]; exact hI.2
  obtain ⟨r, hr, hm⟩ := wq_md_letter n hn x1 x2 q.2.2 v.1
  obtain ⟨fr, rr⟩ := hm
  refine ⟨q, hq, ?_, r, hr, ?_, ?_⟩
  · omega
  · exact wt_IV_fr v rr fr (by (try dsimp only); first | omega | exact fun h => h) (by (try dsimp only); first | omega | exact fun h => h) (fun i hi => by unfold wt_PA at hi; first | (dsimp only; omega) | omega | exact fun h => h)
  · rw [fr.1 1 2 (by (try dsimp only); first | omega | exact fun h => h), fr.1 108 1 (by (try dsimp only); first | omega | exact fun h => h)]; exact t1
set_option maxHeartbeats 4000000 in
theorem wq_C_piece (n : Nat) (hn : 4294967297 < n) : wt_C_piece n wt_Inv := by
  intro σ x1 x2 x3 hI
  obtain ⟨q, hq, hc⟩ := wq_ap_piece n hn x1 x2 x3 σ
  obtain ⟨fq, cq⟩ := hc
  have v : wt_IV q.2.2 := by rw [fq]; exact hI.1
  have t1 : (wt_gf q.2.2 1 2).toInt = (wt_gf q.2.2 108 1).toInt := by rw [fq]; exact hI.2
  obtain ⟨r, hr, hm⟩ := wq_md_piece n hn x1 x2 x3 q.2.2 v.1
  obtain ⟨fr, rr⟩ := hm
  refine ⟨q, hq, ?_, r, hr, ?_, ?_⟩
  · omega
  · exact wt_IV_fr v rr fr (by (try dsimp only); first | omega | exact fun h => h) (by (try dsimp only); first | omega | exact fun h => h) (fun i hi => by unfold wt_PA at hi; first | (dsimp only; omega) | omega | exact fun h => h)
  · rw [fr.1 1 2 (by (try dsimp only); first | omega | exact fun h => h), fr.1 108 1 (by (try dsimp only); first | omega | exact fun h => h)]; exact t1
set_option maxHeartbeats 4000000 in
theorem wq_C_word (n : Nat) (hn : 4294967297 < n) : wt_C_word n wt_Inv := by
  intro σ x1 x2 hI
  obtain ⟨q, hq, hc⟩ := wq_ap_word n hn x1 x2 σ
  obtain ⟨fq, cq⟩ := hc
  have v : wt_IV q.2.2 := wt_IV_cls hI.1 fq (fun k => (by (try dsimp only); first | omega | exact fun h => h)) (fun i hi => (by (try dsimp only); first | omega | exact fun h => h))
  have t1 : (wt_gf q.2.2 1 2).toInt = (wt_gf q.2.2 108 1).toInt := by rw [fq.1 1 2 (by (try dsimp only); first | omega | exact fun h => h), fq.1 108 1 (by (try dsimp only); first | omega | exact fun h => h)]; exact hI.2
  obtain ⟨r, hr, hm⟩ := wq_md_word n hn x1 x2 q.2.2 v.1
  obtain ⟨fr, rr⟩ := hm
  refine ⟨q, hq, ?_, r, hr, ?_, ?_⟩
  · omega
  · exact wt_IV_fr v rr fr (by (try dsimp only); first | omega | exact fun h => h) (by (try dsimp only); first | omega | exact fun h => h) (fun i hi => by unfold wt_PA at hi; first | (dsimp only; omega) | omega | exact fun h => h)
  · rw [fr.1 1 2 (by (try dsimp only); first | omega | exact fun h => h), fr.1 108 1 (by (try dsimp only); first | omega | exact fun h => h)]; exact t1
set_option maxHeartbeats 4000000 in
theorem wq_C_at (n : Nat) (hn : 4294967297 < n) : wt_C_at n wt_Inv := by
  intro σ x1 x2 hI
  obtain ⟨q, hq, hc⟩ := wq_ap_at n hn x1 x2 σ
  obtain ⟨fq, cq⟩ := hc
  have v : wt_IV q.2.2 := by rw [fq]; exact hI.1
  have t1 : (wt_gf q.2.2 1 2).toInt = (wt_gf q.2.2 108 1).toInt := by rw [fq]; exact hI.2
  obtain ⟨r, hr, hm⟩ := wq_md_at n hn x1 x2 q.2.2 v.1
  obtain ⟨fr, rr⟩ := hm
  refine ⟨q, hq, ?_, r, hr, ?_, ?_⟩
  · omega
  · exact wt_IV_fr v rr fr (by (try dsimp only); first | omega | exact fun h => h) (by (try dsimp only); first | omega | exact fun h => h) (fun i hi => by unfold wt_PA at hi; first | (dsimp only; omega) | omega | exact fun h => h)
  · rw [fr.1 1 2 (by (try dsimp only); first | omega | exact fun h => h), fr.1 108 1 (by (try dsimp only); first | omega | exact fun h => h)]; exact t1
set_option maxHeartbeats 4000000 in
theorem wq_C_needs (n : Nat) (hn : 4294967297 < n) : wt_C_needs n wt_Inv := by
  intro σ x1 x2 hI
  obtain ⟨q, hq, hc⟩ := wq_ap_needs n hn x1 x2 σ
  obtain ⟨fq, cq⟩ := hc
  have v : wt_IV q.2.2 := by rw [fq]; exact hI.1
  have t1 : (wt_gf q.2.2 1 2).toInt = (wt_gf q.2.2 108 1).toInt := by rw [fq]; exact hI.2
  obtain ⟨r, hr, hm⟩ := wq_md_needs n hn x1 x2 q.2.2 v.1
  obtain ⟨fr, rr⟩ := hm
  refine ⟨q, hq, ?_, r, hr, ?_, ?_⟩
  · omega
  · exact wt_IV_fr v rr fr (by (try dsimp only); first | omega | exact fun h => h) (by (try dsimp only); first | omega | exact fun h => h) (fun i hi => by unfold wt_PA at hi; first | (dsimp only; omega) | omega | exact fun h => h)
  · rw [fr.1 1 2 (by (try dsimp only); first | omega | exact fun h => h), fr.1 108 1 (by (try dsimp only); first | omega | exact fun h => h)]; exact t1
set_option maxHeartbeats 4000000 in
theorem wq_C_habit (n : Nat) (hn : 4294967297 < n) : wt_C_habit n wt_Inv := by
  intro σ x1 hI
  obtain ⟨q, hq, hc⟩ := wq_ap_habit n hn x1 σ
  obtain ⟨fq, cq⟩ := hc
  have v : wt_IV q.2.2 := wt_IV_cls hI.1 fq (fun k => (by (try dsimp only); first | omega | exact fun h => h)) (fun i hi => (by (try dsimp only); first | omega | exact fun h => h))
  have t1 : (wt_gf q.2.2 1 2).toInt = (wt_gf q.2.2 108 1).toInt := by rw [fq.1 1 2 (by (try dsimp only); first | omega | exact fun h => h), fq.1 108 1 (by (try dsimp only); first | omega | exact fun h => h)]; exact hI.2
  obtain ⟨r, hr, hm⟩ := wq_md_habit n hn x1 q.2.2 v.1
  obtain ⟨fr, rr⟩ := hm
  refine ⟨q, hq, ?_, r, hr, ?_, ?_⟩
  · omega
  · exact wt_IV_fr v rr fr (by (try dsimp only); first | omega | exact fun h => h) (by (try dsimp only); first | omega | exact fun h => h) (fun i hi => by unfold wt_PA at hi; first | (dsimp only; omega) | omega | exact fun h => h)
  · rw [fr.1 1 2 (by (try dsimp only); first | omega | exact fun h => h), fr.1 108 1 (by (try dsimp only); first | omega | exact fun h => h)]; exact t1
set_option maxHeartbeats 4000000 in
theorem wq_C_can (n : Nat) (hn : 4294967297 < n) : wt_C_can n wt_Inv := by
  intro σ x1 hI
  obtain ⟨q, hq, hc⟩ := wq_ap_can n hn x1 σ
  obtain ⟨fq, cq⟩ := hc
  have v : wt_IV q.2.2 := wt_IV_cls hI.1 fq (fun k => (by (try dsimp only); first | omega | exact fun h => h)) (fun i hi => (by (try dsimp only); first | omega | exact fun h => h))
  have t1 : (wt_gf q.2.2 1 2).toInt = (wt_gf q.2.2 108 1).toInt := by rw [fq.1 1 2 (by (try dsimp only); first | omega | exact fun h => h), fq.1 108 1 (by (try dsimp only); first | omega | exact fun h => h)]; exact hI.2
  obtain ⟨r, hr, hm⟩ := wq_md_can n hn x1 q.2.2 v.1
  obtain ⟨fr, rr⟩ := hm
  refine ⟨q, hq, ?_, r, hr, ?_, ?_⟩
  · omega
  · exact wt_IV_fr v rr fr (by (try dsimp only); first | omega | exact fun h => h) (by (try dsimp only); first | omega | exact fun h => h) (fun i hi => by unfold wt_PA at hi; first | (dsimp only; omega) | omega | exact fun h => h)
  · rw [fr.1 1 2 (by (try dsimp only); first | omega | exact fun h => h), fr.1 108 1 (by (try dsimp only); first | omega | exact fun h => h)]; exact t1
set_option maxHeartbeats 4000000 in
theorem wq_C_lacks (n : Nat) (hn : 4294967297 < n) : wt_C_lacks n wt_Inv := by
  intro σ x1 x2 hI
  obtain ⟨q, hq, hc⟩ := wq_ap_lacks n hn x1 x2 σ
  obtain ⟨fq, cq⟩ := hc
  have v : wt_IV q.2.2 := wt_IV_cls hI.1 fq (fun k => (by (try dsimp only); first | omega | exact fun h => h)) (fun i hi => (by (try dsimp only); first | omega | exact fun h => h))
  have t1 : (wt_gf q.2.2 1 2).toInt = (wt_gf q.2.2 108 1).toInt := by rw [fq.1 1 2 (by (try dsimp only); first | omega | exact fun h => h), fq.1 108 1 (by (try dsimp only); first | omega | exact fun h => h)]; exact hI.2
  obtain ⟨r, hr, hm⟩ := wq_md_lacks n hn x1 x2 q.2.2 v.1
  obtain ⟨fr, rr⟩ := hm
  refine ⟨q, hq, ?_, r, hr, ?_, ?_⟩
  · omega
  · exact wt_IV_fr v rr fr (by (try dsimp only); first | omega | exact fun h => h) (by (try dsimp only); first | omega | exact fun h => h) (fun i hi => by unfold wt_PA at hi; first | (dsimp only; omega) | omega | exact fun h => h)
  · rw [fr.1 1 2 (by (try dsimp only); first | omega | exact fun h => h), fr.1 108 1 (by (try dsimp only); first | omega | exact fun h => h)]; exact t1
set_option maxHeartbeats 4000000 in
theorem wq_C_print (n : Nat) (hn : 4294967297 < n) : wt_C_print n wt_Inv := by
  intro σ x1 x2 hI
  obtain ⟨q, hq, hc⟩ := wq_ap_print n hn x1 x2 σ
  obtain ⟨fq, cq⟩ := hc
  have v : wt_IV q.2.2 := wt_IV_cls hI.1 fq (fun k => (by (try dsimp only); first | omega | exact fun h => h)) (fun i hi => (by (try dsimp only); first | omega | exact fun h => h))
  have t1 : (wt_gf q.2.2 1 2).toInt = (wt_gf q.2.2 108 1).toInt := by rw [fq.1 1 2 (by (try dsimp only); first | omega | exact fun h => h), fq.1 108 1 (by (try dsimp only); first | omega | exact fun h => h)]; exact hI.2
  obtain ⟨r, hr, hm⟩ := wq_md_print n hn x1 x2 q.2.2 v.1 v.2.2.2.1
  obtain ⟨fr, rr⟩ := hm
  refine ⟨q, hq, ?_, r, hr, ?_, ?_⟩
  · omega
  · exact wt_IV_fr v rr fr (by (try dsimp only); first | omega | exact fun h => h) (by (try dsimp only); first | omega | exact fun h => h) (fun i hi => by unfold wt_PA at hi; first | (dsimp only; omega) | omega | exact fun h => h)
  · rw [fr.1 1 2 (by (try dsimp only); first | omega | exact fun h => h), fr.1 108 1 (by (try dsimp only); first | omega | exact fun h => h)]; exact t1
set_option maxHeartbeats 4000000 in
theorem wq_C_page (n : Nat) (hn : 4294967297 < n) : wt_C_page n wt_Inv := by
  intro σ x1 x2 hI
  obtain ⟨q, hq, hc⟩ := wq_ap_page n hn x1 x2 σ
  obtain ⟨fq, cq⟩ := hc
  have v : wt_IV q.2.2 := wt_IV_cls hI.1 fq (fun k => (by (try dsimp only); first | omega | exact fun h => h)) (fun i hi => (by (try dsimp only); first | omega | exact fun h => h))
  have t1 : (wt_gf q.2.2 1 2).toInt = (wt_gf q.2.2 108 1).toInt := by rw [fq.1 1 2 (by (try dsimp only); first | omega | exact fun h => h), fq.1 108 1 (by (try dsimp only); first | omega | exact fun h => h)]; exact hI.2
  obtain ⟨r, hr, hm⟩ := wq_md_page n hn x1 x2 q.2.2 v.1 v.2.2.1
  obtain ⟨fr, rr⟩ := hm
  refine ⟨q, hq, ?_, r, hr, ?_, ?_⟩
  · omega
  · exact wt_IV_fr v rr fr (by (try dsimp only); first | omega | exact fun h => h) (by (try dsimp only); first | omega | exact fun h => h) (fun i hi => by unfold wt_PA at hi; first | (dsimp only; omega) | omega | exact fun h => h)
  · rw [fr.1 1 2 (by (try dsimp only); first | omega | exact fun h => h), fr.1 108 1 (by (try dsimp only); first | omega | exact fun h => h)]; exact t1
set_option maxHeartbeats 4000000 in
theorem wq_C_read (n : Nat) (hn : 4294967297 < n) : wt_C_read n wt_Inv := by
  intro σ x1 x2 hI
  obtain ⟨q, hq, hc⟩ := wq_ap_read n hn x1 x2 σ
  obtain ⟨fq, cq⟩ := hc
  have v : wt_IV q.2.2 := wt_IV_cls hI.1 fq (fun k => (by (try dsimp only); first | omega | exact fun h => h)) (fun i hi => (by (try dsimp only); first | omega | exact fun h => h))
  have t1 : (wt_gf q.2.2 1 2).toInt = (wt_gf q.2.2 108 1).toInt := by rw [fq.1 1 2 (by (try dsimp only); first | omega | exact fun h => h), fq.1 108 1 (by (try dsimp only); first | omega | exact fun h => h)]; exact hI.2
  obtain ⟨r, hr, hm⟩ := wq_md_read n hn x1 x2 q.2.2 v.1 v.2.2.1
  obtain ⟨fr, rr⟩ := hm
  refine ⟨q, hq, ?_, r, hr, ?_, ?_⟩
  · omega
  · exact wt_IV_fr v rr fr (by (try dsimp only); first | omega | exact fun h => h) (by (try dsimp only); first | omega | exact fun h => h) (fun i hi => by unfold wt_PA at hi; first | (dsimp only; omega) | omega | exact fun h => h)
  · rw [fr.1 1 2 (by (try dsimp only); first | omega | exact fun h => h), fr.1 108 1 (by (try dsimp only); first | omega | exact fun h => h)]; exact t1
set_option maxHeartbeats 4000000 in
theorem wq_C_least (n : Nat) (hn : 4294967297 < n) : wt_C_least n wt_Inv := by
  intro σ x1 x2 x3 hI
  obtain ⟨q, hq, hc⟩ := wq_ap_least n hn x1 x2 x3 σ
  obtain ⟨fq, cq⟩ := hc
  have v : wt_IV q.2.2 := wt_IV_cls hI.1 fq (fun k => (by (try dsimp only); first | omega | exact fun h => h)) (fun i hi => (by (try dsimp only); first | omega | exact fun h => h))
  have t1 : (wt_gf q.2.2 1 2).toInt = (wt_gf q.2.2 108 1).toInt := by rw [fq.1 1 2 (by (try dsimp only); first | omega | exact fun h => h), fq.1 108 1 (by (try dsimp only); first | omega | exact fun h => h)]; exact hI.2
  obtain ⟨r, hr, hm⟩ := wq_md_least n hn x1 x2 x3 q.2.2 v.1
  obtain ⟨fr, rr⟩ := hm
  refine ⟨q, hq, ?_, r, hr, ?_, ?_⟩
  · omega
  · exact wt_IV_fr v rr fr (by (try dsimp only); first | omega | exact fun h => h) (by (try dsimp only); first | omega | exact fun h => h) (fun i hi => by unfold wt_PA at hi; first | (dsimp only; omega) | omega | exact fun h => h)
  · rw [fr.1 1 2 (by (try dsimp only); first | omega | exact fun h => h), fr.1 108 1 (by (try dsimp only); first | omega | exact fun h => h)]; exact t1
set_option maxHeartbeats 4000000 in
theorem wq_C_fitting (n : Nat) (hn : 4294967297 < n) : wt_C_fitting n wt_Inv := by
  intro σ x1 x2 x3 x4 hI
  obtain ⟨q, hq, hc⟩ := wq_ap_fitting n hn x1 x2 x3 x4 σ
  obtain ⟨fq, cq⟩ := hc
  have v : wt_IV q.2.2 := wt_IV_cls hI.1 fq (fun k => (by (try dsimp only); first | omega | exact fun h => h)) (fun i hi => (by (try dsimp only); first | omega | exact fun h => h))
  have t1 : (wt_gf q.2.2 1 2).toInt = (wt_gf q.2.2 108 1).toInt := by rw [fq.1 1 2 (by (try dsimp only); first | omega | exact fun h => h), fq.1 108 1 (by (try dsimp only); first | omega | exact fun h => h)]; exact hI.2
  obtain ⟨r, hr, hm⟩ := wq_md_fitting n hn x1 x2 x3 x4 q.2.2 v.1
  obtain ⟨fr, rr⟩ := hm
  refine ⟨q, hq, ?_, r, hr, ?_, ?_⟩
  · omega
  · exact wt_IV_fr v rr fr (by (try dsimp only); first | omega | exact fun h => h) (by (try dsimp only); first | omega | exact fun h => h) (fun i hi => by unfold wt_PA at hi; first | (dsimp only; omega) | omega | exact fun h => h)
  · rw [fr.1 1 2 (by (try dsimp only); first | omega | exact fun h => h), fr.1 108 1 (by (try dsimp only); first | omega | exact fun h => h)]; exact t1
set_option maxHeartbeats 4000000 in
theorem wq_C_wordings (n : Nat) (hn : 4294967297 < n) : wt_C_wordings n wt_Inv := by
  intro σ x1 hI
  obtain ⟨q, hq, hc⟩ := wq_ap_wordings n hn x1 σ
  obtain ⟨fq, cq⟩ := hc
  have v : wt_IV q.2.2 := wt_IV_cls hI.1 fq (fun k => (by (try dsimp only); first | omega | exact fun h => h)) (fun i hi => (by (try dsimp only); first | omega | exact fun h => h))
  have t1 : (wt_gf q.2.2 1 2).toInt = (wt_gf q.2.2 108 1).toInt := by rw [fq.1 1 2 (by (try dsimp only); first | omega | exact fun h => h), fq.1 108 1 (by (try dsimp only); first | omega | exact fun h => h)]; exact hI.2
  obtain ⟨r, hr, hm⟩ := wq_md_wordings n hn x1 q.2.2 v.1
  obtain ⟨fr, rr⟩ := hm
  refine ⟨q, hq, ?_, r, hr, ?_, ?_⟩
  · omega
  · exact wt_IV_fr v rr fr (by (try dsimp only); first | omega | exact fun h => h) (by (try dsimp only); first | omega | exact fun h => h) (fun i hi => by unfold wt_PA at hi; first | (dsimp only; omega) | omega | exact fun h => h)
  · rw [fr.1 1 2 (by (try dsimp only); first | omega | exact fun h => h), fr.1 108 1 (by (try dsimp only); first | omega | exact fun h => h)]; exact t1
set_option maxHeartbeats 4000000 in
theorem wq_C_want (n : Nat) (hn : 4294967297 < n) : wt_C_want n wt_Inv := by
  intro σ x1 x2 x3 x4 hI
  obtain ⟨q, hq, hc⟩ := wq_ap_want n hn x1 x2 x3 x4 σ
  obtain ⟨fq, cq⟩ := hc
  have v : wt_IV q.2.2 := wt_IV_cls hI.1 fq (fun k => (by (try dsimp only); first | omega | exact fun h => h)) (fun i hi => (by (try dsimp only); first | omega | exact fun h => h))
  have t1 : (wt_gf q.2.2 1 2).toInt = (wt_gf q.2.2 108 1).toInt := by rw [fq.1 1 2 (by (try dsimp only); first | omega | exact fun h => h), fq.1 108 1 (by (try dsimp only); first | omega | exact fun h => h)]; exact hI.2
  obtain ⟨r, hr, hm⟩ := wq_md_want n hn x1 x2 x3 x4 q.2.2 v.1
  obtain ⟨fr, rr⟩ := hm
  refine ⟨q, hq, ?_, r, hr, ?_, ?_⟩
  · omega
  · exact wt_IV_fr v rr fr (by (try dsimp only); first | omega | exact fun h => h) (by (try dsimp only); first | omega | exact fun h => h) (fun i hi => by unfold wt_PA at hi; first | (dsimp only; omega) | omega | exact fun h => h)
  · rw [fr.1 1 2 (by (try dsimp only); first | omega | exact fun h => h), fr.1 108 1 (by (try dsimp only); first | omega | exact fun h => h)]; exact t1
set_option maxHeartbeats 4000000 in
theorem wq_C_forget (n : Nat) (hn : 4294967297 < n) : wt_C_forget n wt_Inv := by
  intro σ hI
  obtain ⟨q, hq, hc⟩ := wq_ap_forget n hn σ
  have fq := hc
  have v : wt_IV q.2 := wt_IV_cls hI.1 fq (fun k => (by (try dsimp only); first | omega | exact fun h => h)) (fun i hi => (by (try dsimp only); first | omega | exact fun h => h))
  have t1 : (wt_gf q.2 1 2).toInt = (wt_gf q.2 108 1).toInt := by rw [fq.1 1 2 (by (try dsimp only); first | omega | exact fun h => h), fq.1 108 1 (by (try dsimp only); first | omega | exact fun h => h)]; exact hI.2
  obtain ⟨r, hr, hm⟩ := wq_md_forget n hn q.2 v.1
  obtain ⟨fr, rr⟩ := hm
  refine ⟨q, hq, r, hr, ?_, ?_⟩
  · exact wt_IV_fr v rr fr (by (try dsimp only); first | omega | exact fun h => h) (by (try dsimp only); first | omega | exact fun h => h) (fun i hi => by unfold wt_PA at hi; first | (dsimp only; omega) | omega | exact fun h => h)
  · rw [fr.1 1 2 (by (try dsimp only); first | omega | exact fun h => h), fr.1 108 1 (by (try dsimp only); first | omega | exact fun h => h)]; exact t1
set_option maxHeartbeats 4000000 in
theorem wq_C_most (n : Nat) (hn : 4294967297 < n) : wt_C_most n wt_Inv := by
  intro σ x1 hI
  obtain ⟨q, hq, hc⟩ := wq_ap_most n hn x1 σ
  obtain ⟨fq, cq⟩ := hc
  have v : wt_IV q.2.2 := wt_IV_cls hI.1 fq (fun k => (by (try dsimp only); first | omega | exact fun h => h)) (fun i hi => (by (try dsimp only); first | omega | exact fun h => h))
  have t1 : (wt_gf q.2.2 1 2).toInt = (wt_gf q.2.2 108 1).toInt := by rw [fq.1 1 2 (by (try dsimp only); first | omega | exact fun h => h), fq.1 108 1 (by (try dsimp only); first | omega | exact fun h => h)]; exact hI.2
  obtain ⟨r, hr, hm⟩ := wq_md_most n hn x1 q.2.2 v.1
  obtain ⟨fr, rr⟩ := hm
  refine ⟨q, hq, ?_, r, hr, ?_, ?_⟩
  · omega
  · exact wt_IV_fr v rr fr (by (try dsimp only); first | omega | exact fun h => h) (by (try dsimp only); first | omega | exact fun h => h) (fun i hi => by unfold wt_PA at hi; first | (dsimp only; omega) | omega | exact fun h => h)
  · rw [fr.1 1 2 (by (try dsimp only); first | omega | exact fun h => h), fr.1 108 1 (by (try dsimp only); first | omega | exact fun h => h)]; exact t1
set_option maxHeartbeats 4000000 in
theorem wq_C_greedy (n : Nat) (hn : 4294967297 < n) : wt_C_greedy n wt_Inv := by
  intro σ x1 hI
  obtain ⟨q, hq, hc⟩ := wq_ap_greedy n hn x1 σ
  obtain ⟨fq, cq⟩ := hc
  have v : wt_IV q.2.2 := wt_IV_cls hI.1 fq (fun k => (by (try dsimp only); first | omega | exact fun h => h)) (fun i hi => (by (try dsimp only); first | omega | exact fun h => h))
  have t1 : (wt_gf q.2.2 1 2).toInt = (wt_gf q.2.2 108 1).toInt := by rw [fq.1 1 2 (by (try dsimp only); first | omega | exact fun h => h), fq.1 108 1 (by (try dsimp only); first | omega | exact fun h => h)]; exact hI.2
  obtain ⟨r, hr, hm⟩ := wq_md_greedy n hn x1 q.2.2 v.1
  obtain ⟨fr, rr⟩ := hm
  refine ⟨q, hq, ?_, r, hr, ?_, ?_⟩
  · omega
  · exact wt_IV_fr v rr fr (by (try dsimp only); first | omega | exact fun h => h) (by (try dsimp only); first | omega | exact fun h => h) (fun i hi => by unfold wt_PA at hi; first | (dsimp only; omega) | omega | exact fun h => h)
  · rw [fr.1 1 2 (by (try dsimp only); first | omega | exact fun h => h), fr.1 108 1 (by (try dsimp only); first | omega | exact fun h => h)]; exact t1
set_option maxHeartbeats 4000000 in
theorem wq_C_bound (n : Nat) (hn : 4294967297 < n) : wt_C_bound n wt_Inv := by
  intro σ hI
  obtain ⟨q, hq, hc⟩ := wq_ap_bound n hn σ
  have fq := hc
  have v : wt_IV q.2 := by rw [fq]; exact hI.1
  have t1 : (wt_gf q.2 1 2).toInt = (wt_gf q.2 108 1).toInt := by rw [fq]; exact hI.2
  obtain ⟨r, hr, hm⟩ := wq_md_bound n hn q.2 v.1
  obtain ⟨fr, rr⟩ := hm
  refine ⟨q, hq, r, hr, ?_, ?_⟩
  · exact wt_IV_fr v rr fr (by (try dsimp only); first | omega | exact fun h => h) (by (try dsimp only); first | omega | exact fun h => h) (fun i hi => by unfold wt_PA at hi; first | (dsimp only; omega) | omega | exact fun h => h)
  · rw [fr.1 1 2 (by (try dsimp only); first | omega | exact fun h => h), fr.1 108 1 (by (try dsimp only); first | omega | exact fun h => h)]; exact t1
set_option maxHeartbeats 4000000 in
theorem wq_C_said (n : Nat) (hn : 4294967297 < n) : wt_C_said n wt_Inv := by
  intro σ x1 x2 hI
  obtain ⟨q, hq, hc⟩ := wq_ap_said n hn x1 x2 σ
  obtain ⟨fq, cq⟩ := hc
  have v : wt_IV q.2.2 := wt_IV_cls hI.1 fq (fun k => (by (try dsimp only); first | omega | exact fun h => h)) (fun i hi => (by (try dsimp only); first | omega | exact fun h => h))
  have t1 : (wt_gf q.2.2 1 2).toInt = (wt_gf q.2.2 108 1).toInt := by rw [fq.1 1 2 (by (try dsimp only); first | omega | exact fun h => h), fq.1 108 1 (by (try dsimp only); first | omega | exact fun h => h)]; exact hI.2
  obtain ⟨r, hr, hm⟩ := wq_md_said n hn x1 x2 q.2.2 v.1
  obtain ⟨fr, rr⟩ := hm
  refine ⟨q, hq, ?_, r, hr, ?_, ?_⟩
  · omega
  · exact wt_IV_fr v rr fr (by (try dsimp only); first | omega | exact fun h => h) (by (try dsimp only); first | omega | exact fun h => h) (fun i hi => by unfold wt_PA at hi; first | (dsimp only; omega) | omega | exact fun h => h)
  · rw [fr.1 1 2 (by (try dsimp only); first | omega | exact fun h => h), fr.1 108 1 (by (try dsimp only); first | omega | exact fun h => h)]; exact t1
set_option maxHeartbeats 4000000 in
theorem wq_C_lost (n : Nat) (hn : 4294967297 < n) : wt_C_lost n wt_Inv := by
  intro σ x1 hI
  obtain ⟨q, hq, hc⟩ := wq_ap_lost n hn x1 σ
  obtain ⟨fq, cq⟩ := hc
  have v : wt_IV q.2.2 := wt_IV_cls hI.1 fq (fun k => (by (try dsimp only); first | omega | exact fun h => h)) (fun i hi => (by (try dsimp only); first | omega | exact fun h => h))
  have t1 : (wt_gf q.2.2 1 2).toInt = (wt_gf q.2.2 108 1).toInt := by rw [fq.1 1 2 (by (try dsimp only); first | omega | exact fun h => h), fq.1 108 1 (by (try dsimp only); first | omega | exact fun h => h)]; exact hI.2
  obtain ⟨r, hr, hm⟩ := wq_md_lost n hn x1 q.2.2 v.1
  obtain ⟨fr, rr⟩ := hm
  refine ⟨q, hq, ?_, r, hr, ?_, ?_⟩
  · omega
  · exact wt_IV_fr v rr fr (by (try dsimp only); first | omega | exact fun h => h) (by (try dsimp only); first | omega | exact fun h => h) (fun i hi => by unfold wt_PA at hi; first | (dsimp only; omega) | omega | exact fun h => h)
  · rw [fr.1 1 2 (by (try dsimp only); first | omega | exact fun h => h), fr.1 108 1 (by (try dsimp only); first | omega | exact fun h => h)]; exact t1
set_option maxHeartbeats 4000000 in
theorem wq_C_ends (n : Nat) (hn : 4294967297 < n) : wt_C_ends n wt_Inv := by
  intro σ x1 hI
  obtain ⟨q, hq, hc⟩ := wq_ap_ends n hn x1 σ
  obtain ⟨fq, cq⟩ := hc
  have v : wt_IV q.2.2 := wt_IV_cls hI.1 fq (fun k => (by (try dsimp only); first | omega | exact fun h => h)) (fun i hi => (by (try dsimp only); first | omega | exact fun h => h))
  have t1 : (wt_gf q.2.2 1 2).toInt = (wt_gf q.2.2 108 1).toInt := by rw [fq.1 1 2 (by (try dsimp only); first | omega | exact fun h => h), fq.1 108 1 (by (try dsimp only); first | omega | exact fun h => h)]; exact hI.2
  obtain ⟨r, hr, hm⟩ := wq_md_ends n hn x1 q.2.2 v.1
  obtain ⟨fr, rr⟩ := hm
  refine ⟨q, hq, ?_, r, hr, ?_, ?_⟩
  · omega
  · exact wt_IV_fr v rr fr (by (try dsimp only); first | omega | exact fun h => h) (by (try dsimp only); first | omega | exact fun h => h) (fun i hi => by unfold wt_PA at hi; first | (dsimp only; omega) | omega | exact fun h => h)
  · rw [fr.1 1 2 (by (try dsimp only); first | omega | exact fun h => h), fr.1 108 1 (by (try dsimp only); first | omega | exact fun h => h)]; exact t1
set_option maxHeartbeats 4000000 in
theorem wq_C_together (n : Nat) (hn : 4294967297 < n) : wt_C_together n wt_Inv := by
  intro σ x1 hI
  obtain ⟨q, hq, hc⟩ := wq_ap_together n hn x1 σ
  obtain ⟨fq, cq⟩ := hc
  have v : wt_IV q.2.2 := wt_IV_cls hI.1 fq (fun k => (by (try dsimp only); first | omega | exact fun h => h)) (fun i hi => (by (try dsimp only); first | omega | exact fun h => h))
  have t1 : (wt_gf q.2.2 1 2).toInt = (wt_gf q.2.2 108 1).toInt := by rw [fq.1 1 2 (by (try dsimp only); first | omega | exact fun h => h), fq.1 108 1 (by (try dsimp only); first | omega | exact fun h => h)]; exact hI.2
  obtain ⟨r, hr, hm⟩ := wq_md_together n hn x1 q.2.2 v.1
  obtain ⟨fr, rr⟩ := hm
  refine ⟨q, hq, ?_, r, hr, ?_, ?_⟩
  · omega
  · exact wt_IV_fr v rr fr (by (try dsimp only); first | omega | exact fun h => h) (by (try dsimp only); first | omega | exact fun h => h) (fun i hi => by unfold wt_PA at hi; first | (dsimp only; omega) | omega | exact fun h => h)
  · rw [fr.1 1 2 (by (try dsimp only); first | omega | exact fun h => h), fr.1 108 1 (by (try dsimp only); first | omega | exact fun h => h)]; exact t1
set_option maxHeartbeats 4000000 in
theorem wq_C_count (n : Nat) (hn : 4294967297 < n) : wt_C_count n wt_Inv := by
  intro σ x1 hI
  obtain ⟨q, hq, hc⟩ := wq_ap_count n hn x1 σ
  have fq := hc
  have v : wt_IV q.2 := by rw [fq]; exact hI.1
  have t1 : (wt_gf q.2 1 2).toInt = (wt_gf q.2 108 1).toInt := by rw [fq]; exact hI.2
  obtain ⟨r, hr, hm⟩ := wq_md_count n hn x1 q.2 v.1
  obtain ⟨fr, rr⟩ := hm
  refine ⟨q, hq, r, hr, ?_, ?_⟩
  · exact wt_IV_fr v rr fr (by (try dsimp only); first | omega | exact fun h => h) (by (try dsimp only); first | omega | exact fun h => h) (fun i hi => by unfold wt_PA at hi; first | (dsimp only; omega) | omega | exact fun h => h)
  · rw [fr.1 1 2 (by (try dsimp only); first | omega | exact fun h => h), fr.1 108 1 (by (try dsimp only); first | omega | exact fun h => h)]; exact t1
set_option maxHeartbeats 4000000 in
theorem wq_C_cast (n : Nat) (hn : 4294967297 < n) : wt_C_cast n wt_Inv := by
  intro σ x1 x2 hI
  obtain ⟨q, hq, hc⟩ := wq_ap_cast n hn x1 x2 σ
  obtain ⟨fq, cq⟩ := hc
  have v : wt_IV q.2.2 := wt_IV_cls hI.1 fq (fun k => (by (try dsimp only); first | omega | exact fun h => h)) (fun i hi => (by (try dsimp only); first | omega | exact fun h => h))
  have t1 : (wt_gf q.2.2 1 2).toInt = (wt_gf q.2.2 108 1).toInt := by rw [fq.1 1 2 (by (try dsimp only); first | omega | exact fun h => h), fq.1 108 1 (by (try dsimp only); first | omega | exact fun h => h)]; exact hI.2
  obtain ⟨r, hr, hm⟩ := wq_md_cast n hn x1 x2 q.2.2 v.1 v.2.1
  obtain ⟨fr, rr, mm⟩ := hm
  refine ⟨q, hq, ?_, r, hr, ?_, ?_⟩
  · omega
  · exact wt_IV_m v rr mm fr (by (try dsimp only); first | omega | exact fun h => h) (by (try dsimp only); first | omega | exact fun h => h) (fun i hi => by unfold wt_PA at hi; (try dsimp only); omega)
  · rw [fr.1 1 2 (by (try dsimp only); first | omega | exact fun h => h), fr.1 108 1 (by (try dsimp only); first | omega | exact fun h => h)]; exact t1
set_option maxHeartbeats 4000000 in
theorem wq_C_exchange (n : Nat) (hn : 4294967297 < n) : wt_C_exchange n wt_Inv := by
  intro σ x1 hI
  obtain ⟨q, hq, hc⟩ := wq_ap_exchange n hn x1 σ
  obtain ⟨fq, cq⟩ := hc
  have v : wt_IV q.2.2 := wt_IV_cls hI.1 fq (fun k => (by (try dsimp only); first | omega | exact fun h => h)) (fun i hi => (by (try dsimp only); first | omega | exact fun h => h))
  have t1 : (wt_gf q.2.2 1 2).toInt = (wt_gf q.2.2 108 1).toInt := by rw [fq.1 1 2 (by (try dsimp only); first | omega | exact fun h => h), fq.1 108 1 (by (try dsimp only); first | omega | exact fun h => h)]; exact hI.2
  obtain ⟨r, hr, hm⟩ := wq_md_exchange n hn x1 q.2.2 v.1 v.2.1
  obtain ⟨fr, rr, mm⟩ := hm
  refine ⟨q, hq, ?_, r, hr, ?_, ?_⟩
  · omega
  · exact wt_IV_m v rr mm fr (by (try dsimp only); first | omega | exact fun h => h) (by (try dsimp only); first | omega | exact fun h => h) (fun i hi => by unfold wt_PA at hi; (try dsimp only); omega)
  · rw [fr.1 1 2 (by (try dsimp only); first | omega | exact fun h => h), fr.1 108 1 (by (try dsimp only); first | omega | exact fun h => h)]; exact t1
set_option maxHeartbeats 4000000 in
theorem wq_C_image (n : Nat) (hn : 4294967297 < n) : wt_C_image n wt_Inv := by
  intro σ hI
  obtain ⟨q, hq, fq⟩ := wq_ap_image n hn σ
  have v : wt_IV q.2 := wt_IV_cls hI.1 fq (fun k => (by (try dsimp only); first | omega | exact fun h => h)) (fun i hi => (by (try dsimp only); first | omega | exact fun h => h))
  have t1 : (wt_gf q.2 1 2).toInt = (wt_gf q.2 108 1).toInt := by rw [fq.1 1 2 (by (try dsimp only); first | omega | exact fun h => h), fq.1 108 1 (by (try dsimp only); first | omega | exact fun h => h)]; exact hI.2
  obtain ⟨r, hr, vr, er⟩ := wq_md_image n hn q.2 v
  refine ⟨q, hq, r, hr, vr, ?_⟩
  rw [er 1 2 (Or.inr ⟨rfl, rfl⟩), er 108 1 (Or.inl ⟨rfl, rfl⟩)]
  exact t1
set_option maxHeartbeats 4000000 in
theorem wq_C_restore (n : Nat) (hn : 4294967297 < n) : wt_C_restore n wt_Inv := by
  intro σ hI
  obtain ⟨q, hq, fq⟩ := wq_ap_restore n hn σ
  have v : wt_IV q.2 := wt_IV_cls hI.1 fq (fun k => (by (try dsimp only); first | omega | exact fun h => h)) (fun i hi => (by (try dsimp only); first | omega | exact fun h => h))
  have t1 : (wt_gf q.2 1 2).toInt = (wt_gf q.2 108 1).toInt := by rw [fq.1 1 2 (by (try dsimp only); first | omega | exact fun h => h), fq.1 108 1 (by (try dsimp only); first | omega | exact fun h => h)]; exact hI.2
  obtain ⟨r, hr, vr, er⟩ := wq_md_restore n hn q.2 v
  refine ⟨q, hq, r, hr, vr, ?_⟩
  rw [er 1 2 (Or.inr ⟨rfl, rfl⟩), er 108 1 (Or.inl ⟨rfl, rfl⟩)]
  exact t1
set_option maxHeartbeats 4000000 in
theorem wq_C_feed (n : Nat) (hn : 4294967297 < n) : wt_C_feed n wt_Inv := by
  intro σ x1 x2 x3 x4 x5 hI
  obtain ⟨q, hq, fq, cq⟩ := wq_ap_feed n hn x1 x2 x3 x4 x5 σ
  have v : wt_IV q.2 := wt_IV_cls hI.1 fq (fun k => (by (try dsimp only); first | omega | exact fun h => h)) (fun i hi => (by (try dsimp only); first | omega | exact fun h => h))
  have e1 : (wt_gf q.2 108 1).toInt = (wt_gf σ 108 1).toInt := by rw [fq.1 108 1 (by (try dsimp only); first | omega | exact fun h => h)]
  have g1 : 0 ≤ (wt_gf σ 108 1).toInt ∧ (wt_gf σ 108 1).toInt ≤ 500 := wt_R_gf hI.1.1 0 rfl
  have hI2 := hI.2
  obtain ⟨r, hr, fr, rr, pr⟩ := wq_md_feed n hn x1 x2 x3 x4 x5 q.2 v.1
  have e2 : (wt_gf r.2 1 2).toInt = (wt_gf q.2 1 2).toInt := by rw [fr.1 1 2 (by (try dsimp only); first | omega | exact fun h => h)]
  have cq2 := cq (by omega)
  refine ⟨q, hq, r, hr, wt_IV_fr v rr fr (by (try dsimp only); first | omega | exact fun h => h) (by (try dsimp only); first | omega | exact fun h => h) (fun i hi => by unfold wt_PA at hi; first | (dsimp only; omega) | omega | exact fun h => h), by omega⟩
set_option maxHeartbeats 4000000 in
theorem wq_C_apart (n : Nat) (hn : 4294967297 < n) : wt_C_apart n wt_Inv := by
  intro σ x1 hI
  obtain ⟨q, hq, fq, cq⟩ := wq_ap_apart n hn x1 σ
  have v : wt_IV q.2.2 := wt_IV_cls hI.1 fq (fun k h => h) (fun i hi => by (try dsimp only); omega)
  have t1 : (wt_gf q.2.2 1 2).toInt = (wt_gf q.2.2 108 1).toInt := by rw [fq.1 1 2 (fun h => h), fq.1 108 1 (fun h => h)]; exact hI.2
  obtain ⟨r, hr, vr, er⟩ := wq_md_apartP n hn x1 q.2.2 v
  refine ⟨q, hq, cq, r, hr, vr, ?_⟩
  rw [er 1 2 (Or.inr ⟨rfl, rfl⟩), er 108 1 (Or.inl ⟨rfl, rfl⟩)]
  exact t1
set_option maxHeartbeats 4000000 in
theorem wq_C_kase (n : Nat) (hn : 4294967297 < n) : wt_C_kase n wt_Inv := by
  intro σ x1 hI
  obtain ⟨q, hq, fq, cq, t1, t2⟩ := wq_ap_kase n hn x1 σ
  have v : wt_IV q.2.2 := wt_IV_cls hI.1 fq (fun k => (by (try dsimp only); first | omega | exact fun h => h)) (fun i hi => (by (try dsimp only); first | omega | exact fun h => h))
  have e1 : wt_gf q.2.2 108 1 = wt_gf σ 108 1 := fq.1 108 1 (by (try dsimp only); omega)
  obtain ⟨r, hr, ⟨fr, rr, mr, u1, u2⟩, x41, x275⟩ := (wq_md_kase n hn x1 q.2.2 v.1 v.2.1).and (wq_md_kaseH n hn x1 q.2.2 v.1 v.2.1)
  have e2 : wt_gf r.2 1 2 = wt_gf q.2.2 1 2 := fr.1 1 2 (by (try dsimp only); omega)
  have hI2 := hI.2
  refine ⟨q, hq, cq, r, hr, wt_IV_5 v rr mr fr (by (try dsimp only); omega) x41 x275 (fun i hi h => by unfold wt_TA at hi; (try dsimp only at h); omega), ?_⟩
  rw [e2]
  rw [e1] at u1 u2
  by_cases hx : 0 ≤ x1.toInt ∧ x1.toInt ≤ (wt_gf σ 1 2).toInt
  · rw [t2 hx, u2 (by omega)]
  · rw [t1 (by omega), u1 (by omega)]; exact hI2
set_option maxHeartbeats 4000000 in
theorem wq_C_text (n : Nat) (hn : 4294967297 < n) : wt_C_text n wt_Inv := by
  intro σ x1 hI
  obtain ⟨q, hq, fq, cq, t1, t2⟩ := wq_ap_text n hn x1 σ
  have v : wt_IV q.2.2 := wt_IV_cls hI.1 fq (fun k => (by (try dsimp only); first | omega | exact fun h => h)) (fun i hi => (by (try dsimp only); first | omega | exact fun h => h))
  have e1 : wt_gf q.2.2 108 1 = wt_gf σ 108 1 := fq.1 108 1 (by (try dsimp only); omega)
  obtain ⟨r, hr, ⟨fr, rr, u1, u2⟩, xr⟩ := (wq_md_text n hn x1 q.2.2 v.1).and (wq_md_textH n hn x1 q.2.2 v.1)
  have e2 : wt_gf r.2 1 2 = wt_gf q.2.2 1 2 := fr.1 1 2 (by (try dsimp only); omega)
  have hI2 := hI.2
  refine ⟨q, hq, cq, r, hr, wt_IV_x v rr fr xr (by (try dsimp only); omega) (fun i hi h => by (try dsimp only at h); omega), ?_⟩
  rw [e2]
  rw [e1] at u1 u2
  by_cases hx : 0 ≤ x1.toInt ∧ x1.toInt ≤ (wt_gf σ 1 2).toInt ∧ x1.toInt ≤ 200
  · rw [t2 hx, u2 (by omega)]
  · rw [t1 (by omega), u1 (by omega)]; exact hI2
set_option maxHeartbeats 4000000 in
theorem wq_C_tongue (n : Nat) (hn : 4294967297 < n) : wt_C_tongue n wt_Inv := by
  intro σ x1 hI
  obtain ⟨q, hq, fq, cq, t1, t2⟩ := wq_ap_tongue n hn x1 σ
  have v : wt_IV q.2.2 := wt_IV_cls hI.1 fq (fun k => (by (try dsimp only); first | omega | exact fun h => h)) (fun i hi => (by (try dsimp only); first | omega | exact fun h => h))
  have e1 : wt_gf q.2.2 108 1 = wt_gf σ 108 1 := fq.1 108 1 (by (try dsimp only); omega)
  obtain ⟨r, hr, ⟨fr, rr, u1, u2⟩, xr⟩ := (wq_md_tongue n hn x1 q.2.2 v.1).and (wq_md_tongueH n hn x1 q.2.2 v.1)
  have e2 : wt_gf r.2 1 2 = wt_gf q.2.2 1 2 := fr.1 1 2 (by (try dsimp only); omega)
  have hI2 := hI.2
  refine ⟨q, hq, cq, r, hr, wt_IV_g v rr fr xr (fun i hi h => by (try dsimp only at h); omega), ?_⟩
  rw [e2]
  rw [e1] at u1 u2
  by_cases hx : 0 ≤ x1.toInt ∧ x1.toInt ≤ (wt_gf σ 1 2).toInt
  · rw [t2 hx, u2 (by omega)]
  · rw [t1 (by omega), u1 (by omega)]; exact hI2
set_option maxHeartbeats 4000000 in
theorem wq_C_set (n : Nat) (hn : 4294967297 < n) : wt_C_set n wt_Inv := by
  intro σ x1 x2 hI
  obtain ⟨q, hq, fq, cq⟩ := wq_ap_set n hn x1 x2 σ
  have v : wt_IV q.2.2 := wt_IV_cls hI.1 fq (fun k => (by (try dsimp only); first | omega | exact fun h => h)) (fun i hi => (by (try dsimp only); first | omega | exact fun h => h))
  have e1 : wt_gf q.2.2 108 1 = wt_gf σ 108 1 := fq.1 108 1 (fun h => h)
  have e3 : wt_gf q.2.2 1 2 = wt_gf σ 1 2 := fq.1 1 2 (fun h => h)
  obtain ⟨r, hr, ⟨fr, rr⟩, xg, xd⟩ := (wq_md_set n hn x1 x2 q.2.2 v.1).and (wq_md_setH n hn x1 x2 q.2.2 v)
  have e2 : wt_gf r.2 1 2 = wt_gf q.2.2 1 2 := fr.1 1 2 (by (try dsimp only); omega)
  have e4 : wt_gf r.2 108 1 = wt_gf q.2.2 108 1 := fr.1 108 1 (by (try dsimp only); omega)
  have g41 : 0 ≤ (wt_gf q.2.2 108 41).toInt ∧ (wt_gf q.2.2 108 41).toInt ≤ 3 := wt_R_gf v.1 9 rfl
  refine ⟨q, hq, by omega, r, hr, ⟨rr, wt_M_fr v.2.1 fr (by (try dsimp only); omega), xg, xd, fun i hi => ?_⟩, ?_⟩
  · rw [fr.1 108 41 (by (try dsimp only); omega)] at hi
    exact wt_KK_eq v.1 (v.2.2.2.2 i hi) (fr.1 108 39 (by (try dsimp only); omega)) (fun j hj => fr.2 j (by unfold wt_TA at hj; (try dsimp only); omega)) (fr.2 _ (by (try dsimp only); omega))
  · rw [e2, e4, e1, e3]; exact hI.2
end WTQ0
-- 89.jt.lean.txt
section WTQ1
/-! the same bytes lie on both tapes, through all calls -/
def wt_JT (σ : wt_St) : Prop := ∀ j, j < 500 → wt_ga σ 2 j = wt_ga σ 109 j
theorem wt_JT_fr {σ σ1 σ2 : wt_St} {F F' : Nat → Nat → Prop} {A A' : Nat → Prop} (h : wt_JT σ) (f : wt_fr F A σ σ1) (g : wt_fr F' A' σ1 σ2) (h1 : ¬ A 2) (h2 : ¬ A 109) (h3 : ¬ A' 2) (h4 : ¬ A' 109) : wt_JT σ2 := fun j hj => by
  rw [g.2 2 h3, g.2 109 h4, f.2 2 h1, f.2 109 h2]
  exact h j hj
def wt_iF (i k : Nat) : Prop := i = 108 ∧ (k = 0 ∨ k = 41 ∨ k = 42 ∨ k = 26 ∨ k = 40)
def wt_iA (i : Nat) : Prop := i = 121 ∨ i = 124 ∨ i = 275 ∨ i = 276 ∨ (278 ≤ i ∧ i < 282) ∨ (264 ≤ i ∧ i < 274) ∨ (283 ≤ i ∧ i < 286)
set_option maxHeartbeats 4000000 in
theorem wf_md_image (n : Nat) (hn : 4294967297 < n) {σ : wt_St} (v : wt_IV σ) : wt_H (wp_md_image n σ) (fun q => wt_fr wt_iF wt_iA σ q.2) := by
  have k0 : (0 : Int32).toInt = 0 := by decide
  unfold wp_md_image
  obtain ⟨s0, ε0⟩ : ∃ o : wt_St, o = wt_sf σ 108 0 (0 : Int32) := ⟨_, rfl⟩
  rw [← ε0]
  have f0 : wt_fr wt_iF wt_iA σ s0 := wt_frw (wt_fr_sf ε0) (fun i k h => by unfold wt_iF; (try dsimp only at h); omega) (fun i h => h.elim)
  refine wt_H_if (fun _ => wt_H_some f0) (fun _ => ?_)
  refine wt_H_gd (fun g => ?_)
  have gi := wt_ixn g
  have en := wt_tnI gi.1
  refine wt_H_bh (wq_md_movesAll n hn (283 + Int32.toNatClampNeg (wt_gf s0 108 41)) (0 : Int32) s0 (wt_RI_fno v.1 ε0 (Or.inr (by decide +kernel))) (by omega) (by omega) (fun h => absurd k0 h)).h (fun q hq => ?_)
  obtain ⟨s1, ε1⟩ : ∃ o : wt_St, o = wt_sf q 108 41 ((wt_gf q 108 41) + (1 : Int32)) := ⟨_, rfl⟩
  rw [← ε1]
  exact wt_H_some (wt_fr.tr (wt_fr.tr f0 hq.2.1 (fun i k h => by unfold wt_mF at h; unfold wt_iF; omega) (fun i h => by unfold wt_mA at h; unfold wt_iA; omega)) (wt_fr_sf ε1) (fun i k h => by unfold wt_iF; (try dsimp only at h); omega) (fun i h => h.elim))
set_option maxHeartbeats 4000000 in
theorem wf_md_restore (n : Nat) (hn : 4294967297 < n) {σ : wt_St} (v : wt_IV σ) : wt_H (wp_md_restore n σ) (fun q => wt_fr wt_iF wt_iA σ q.2) := by
  have k0 : (0 : Int32).toInt = 0 := by decide
  have k1 : (1 : Int32).toInt = 1 := by decide
  unfold wp_md_restore
  obtain ⟨s0, ε0⟩ : ∃ o : wt_St, o = wt_sf σ 108 0 (0 : Int32) := ⟨_, rfl⟩
  rw [← ε0]
  have f0 : wt_fr wt_iF wt_iA σ s0 := wt_frw (wt_fr_sf ε0) (fun i k h => by unfold wt_iF; (try dsimp only at h); omega) (fun i h => h.elim)
  refine wt_H_if (fun _ => wt_H_some f0) (fun c => ?_)
  have r0 := wt_RI_fno v.1 ε0 (Or.inr (by decide +kernel))
  have g41 : 0 ≤ (wt_gf s0 108 41).toInt ∧ (wt_gf s0 108 41).toInt ≤ 3 := wt_Rf9 r0
  have c' := wt_nceq c
  have es := wt_subE (x := wt_gf s0 108 41) (y := (1 : Int32)) (by omega) (by omega)
  obtain ⟨s1, ε1⟩ : ∃ o : wt_St, o = wt_sf s0 108 41 ((wt_gf s0 108 41) - (1 : Int32)) := ⟨_, rfl⟩
  rw [← ε1]
  have v41 := wt_ceq (wt_v_sf ε1)
  have f1 : wt_fr wt_iF wt_iA σ s1 := wt_fr.tr f0 (wt_fr_sf ε1) (fun i k h => by unfold wt_iF; (try dsimp only at h); omega) (fun i h => h.elim)
  refine wt_H_gd (fun g => ?_)
  have gi := wt_ixn g
  have en := wt_tnI gi.1
  have kk := (v.2.2.2.2 (Int32.toNatClampNeg (wt_gf s1 108 41)) (by rw [← wt_ceq ((wt_fr_sf ε0).1 108 41 (by (try dsimp only); omega))]; omega)).1
  refine wt_H_bh (wq_md_movesAll n hn (283 + Int32.toNatClampNeg (wt_gf s1 108 41)) (1 : Int32) s1 (wt_Rm9 r0 ε1 (show 0 ≤ ((wt_gf s0 108 41) - (1 : Int32)).toInt by omega) (show ((wt_gf s0 108 41) - (1 : Int32)).toInt ≤ 3 by omega)) (by omega) (by omega) (fun _ j hj => ?_)).h (fun q hq => ?_)
  · rw [(wt_fr_sf ε1).2 _ (fun h => h), (wt_fr_sf ε0).2 _ (fun h => h)]
    exact kk j hj
  · exact wt_H_some (wt_fr.tr f1 hq.2.1 (fun i k h => by unfold wt_mF at h; unfold wt_iF; omega) (fun i h => by unfold wt_mA at h; unfold wt_iA; omega))
set_option maxHeartbeats 4000000 in
theorem wj_image (n : Nat) (hn : 4294967297 < n) {σ : wt_St} (v : wt_IV σ) (j : wt_JT σ) : wt_H (wp_ap_image n σ) (fun q => wt_H (wp_md_image n q.2) (fun r => wt_JT r.2)) := by
  refine (wq_ap_image n hn σ).h.imp (fun q fq => ?_)
  have v2 : wt_IV q.2 := wt_IV_cls v fq (fun k => by (try dsimp only); omega) (fun i hi => by (try dsimp only); omega)
  refine (wf_md_image n hn v2).imp (fun r fr => ?_)
  exact wt_JT_fr j fq fr (by (try dsimp only); omega) (by (try dsimp only); omega) (by unfold wt_iA; omega) (by unfold wt_iA; omega)
set_option maxHeartbeats 4000000 in
theorem wj_restore (n : Nat) (hn : 4294967297 < n) {σ : wt_St} (v : wt_IV σ) (j : wt_JT σ) : wt_H (wp_ap_restore n σ) (fun q => wt_H (wp_md_restore n q.2) (fun r => wt_JT r.2)) := by
  refine (wq_ap_restore n hn σ).h.imp (fun q fq => ?_)
  have v2 : wt_IV q.2 := wt_IV_cls v fq (fun k => by (try dsimp only); omega) (fun i hi => by (try dsimp only); omega)
  refine (wf_md_restore n hn v2).imp (fun r fr => ?_)
  exact wt_JT_fr j fq fr (by (try dsimp only); omega) (by (try dsimp only); omega) (by unfold wt_iA; omega) (by unfold wt_iA; omega)
theorem wj_feed (n : Nat) (hn : 4294967297 < n) {σ : wt_St} (x1 x2 x3 x4 x5 : Int32) (v : wt_IV σ) (t : (wt_gf σ 1 2).toInt = (wt_gf σ 108 1).toInt) (j : wt_JT σ) : wt_H (wp_ap_feed n x1 x2 x3 x4 x5 σ) (fun q => wt_H (wp_md_feed n x1 x2 x3 x4 x5 q.2) (fun r => q.1 = r.1 ∧ wt_JT r.2)) := by
  intro q hq r hr
  obtain ⟨q', hq', fq, -⟩ := wq_ap_feed n hn x1 x2 x3 x4 x5 σ
  rw [hq] at hq'
  cases hq'
  have v2 : wt_IV q.2 := wt_IV_cls v fq (fun k => by (try dsimp only); omega) (fun i hi => by (try dsimp only); omega)
  obtain ⟨r', hr', fr, -⟩ := wq_md_feed n hn x1 x2 x3 x4 x5 q.2 v2.1
  rw [hr] at hr'
  cases hr'
  have tb : wt_TB σ q.2 := ⟨fun i hi => by rw [fq.2 109 (by (try dsimp only); omega)]; exact j i hi, wt_eqI (by rw [fq.1 108 1 (by (try dsimp only); omega)]; exact t)⟩
  have g1 : 0 ≤ (wt_gf q.2 108 1).toInt ∧ (wt_gf q.2 108 1).toInt ≤ 500 := wt_Rf0 v2.1
  obtain ⟨e1, e2, -⟩ := wr_feed n tb g1 q r hq hr
  refine ⟨e1, fun i hi => ?_⟩
  rw [fr.2 2 (by (try dsimp only); omega)]
  exact e2 i hi
set_option maxHeartbeats 4000000 in
theorem wj_kase (n : Nat) (hn : 4294967297 < n) {σ : wt_St} (x1 : Int32) (v : wt_IV σ) (j : wt_JT σ) : wt_H (wp_ap_kase n x1 σ) (fun q => wt_H (wp_md_kase n x1 q.2.2) (fun r => wt_JT r.2)) := by
  refine (wq_ap_kase n hn x1 σ).h.imp (fun q hq => ?_)
  have fq := hq.1
  have v2 : wt_IV q.2.2 := wt_IV_cls v fq (fun k => (by (try dsimp only); first | omega | exact fun h => h)) (fun i hi => (by (try dsimp only); first | omega | exact fun h => h))
  refine (wq_md_kase n hn x1 q.2.2 v2.1 v2.2.1).h.imp (fun r hr => ?_)
  have fr := hr.1
  exact wt_JT_fr j fq fr (by (try dsimp only); first | omega | exact fun h => h) (by (try dsimp only); first | omega | exact fun h => h) (by (try dsimp only); first | omega | exact fun h => h) (by (try dsimp only); first | omega | exact fun h => h)
set_option maxHeartbeats 4000000 in
theorem wj_tongue (n : Nat) (hn : 4294967297 < n) {σ : wt_St} (x1 : Int32) (v : wt_IV σ) (j : wt_JT σ) : wt_H (wp_ap_tongue n x1 σ) (fun q => wt_H (wp_md_tongue n x1 q.2.2) (fun r => wt_JT r.2)) := by
  refine (wq_ap_tongue n hn x1 σ).h.imp (fun q hq => ?_)
  have fq := hq.1
  have v2 : wt_IV q.2.2 := wt_IV_cls v fq (fun k => (by (try dsimp only); first | omega | exact fun h => h)) (fun i hi => (by (try dsimp only); first | omega | exact fun h => h))
  refine (wq_md_tongue n hn x1 q.2.2 v2.1).h.imp (fun r hr => ?_)
  have fr := hr.1
  exact wt_JT_fr j fq fr (by (try dsimp only); first | omega | exact fun h => h) (by (try dsimp only); first | omega | exact fun h => h) (by (try dsimp only); first | omega | exact fun h => h) (by (try dsimp only); first | omega | exact fun h => h)
set_option maxHeartbeats 4000000 in
theorem wj_text (n : Nat) (hn : 4294967297 < n) {σ : wt_St} (x1 : Int32) (v : wt_IV σ) (j : wt_JT σ) : wt_H (wp_ap_text n x1 σ) (fun q => wt_H (wp_md_text n x1 q.2.2) (fun r => wt_JT r.2)) := by
  refine (wq_ap_text n hn x1 σ).h.imp (fun q hq => ?_)
  have fq := hq.1
  have v2 : wt_IV q.2.2 := wt_IV_cls v fq (fun k => (by (try dsimp only); first | omega | exact fun h => h)) (fun i hi => (by (try dsimp only); first | omega | exact fun h => h))
  refine (wq_md_text n hn x1 q.2.2 v2.1).h.imp (fun r hr => ?_)
  have fr := hr.1
  exact wt_JT_fr j fq fr (by (try dsimp only); first | omega | exact fun h => h) (by (try dsimp only); first | omega | exact fun h => h) (by (try dsimp only); first | omega | exact fun h => h) (by (try dsimp only); first | omega | exact fun h => h)
set_option maxHeartbeats 4000000 in
theorem wj_fault (n : Nat) (hn : 4294967297 < n) {σ : wt_St} (v : wt_IV σ) (j : wt_JT σ) : wt_H (wp_ap_fault n σ) (fun q => wt_H (wp_md_fault n q.2) (fun r => wt_JT r.2)) := by
  refine (wq_ap_fault n hn σ).h.imp (fun q hq => ?_)
  have fq := (by rw [hq]; exact wt_fr.rf : wt_fr (fun _ _ => False) (fun _ => False) σ q.2)
  have v2 : wt_IV q.2 := wt_IV_cls v fq (fun k => (by (try dsimp only); first | omega | exact fun h => h)) (fun i hi => (by (try dsimp only); first | omega | exact fun h => h))
  refine (wq_md_fault n hn q.2 v2.1).h.imp (fun r hr => ?_)
  have fr := hr.1
  exact wt_JT_fr j fq fr (by (try dsimp only); first | omega | exact fun h => h) (by (try dsimp only); first | omega | exact fun h => h) (by (try dsimp only); first | omega | exact fun h => h) (by (try dsimp only); first | omega | exact fun h => h)
set_option maxHeartbeats 4000000 in
theorem wj_told (n : Nat) (hn : 4294967297 < n) {σ : wt_St} (x1 : Int32) (v : wt_IV σ) (j : wt_JT σ) : wt_H (wp_ap_told n x1 σ) (fun q => wt_H (wp_md_told n x1 q.2.2) (fun r => wt_JT r.2)) := by
  refine (wq_ap_told n hn x1 σ).h.imp (fun q hq => ?_)
  have fq := (by rw [hq.1]; exact wt_fr.rf : wt_fr (fun _ _ => False) (fun _ => False) σ q.2.2)
  have v2 : wt_IV q.2.2 := wt_IV_cls v fq (fun k => (by (try dsimp only); first | omega | exact fun h => h)) (fun i hi => (by (try dsimp only); first | omega | exact fun h => h))
  refine (wq_md_told n hn x1 q.2.2 v2.1).h.imp (fun r hr => ?_)
  have fr := hr.1
  exact wt_JT_fr j fq fr (by (try dsimp only); first | omega | exact fun h => h) (by (try dsimp only); first | omega | exact fun h => h) (by (try dsimp only); first | omega | exact fun h => h) (by (try dsimp only); first | omega | exact fun h => h)
set_option maxHeartbeats 4000000 in
theorem wj_letter (n : Nat) (hn : 4294967297 < n) {σ : wt_St} (x1 x2 : Int32) (v : wt_IV σ) (j : wt_JT σ) : wt_H (wp_ap_letter n x1 x2 σ) (fun q => wt_H (wp_md_letter n x1 x2 q.2.2) (fun r => wt_JT r.2)) := by
  refine (wq_ap_letter n hn x1 x2 σ).h.imp (fun q hq => ?_)
  have fq := (by rw [hq.1]; exact wt_fr.rf : wt_fr (fun _ _ => False) (fun _ => False) σ q.2.2)
  have v2 : wt_IV q.2.2 := wt_IV_cls v fq (fun k => (by (try dsimp only); first | omega | exact fun h => h)) (fun i hi => (by (try dsimp only); first | omega | exact fun h => h))
  refine (wq_md_letter n hn x1 x2 q.2.2 v2.1).h.imp (fun r hr => ?_)
  have fr := hr.1
  exact wt_JT_fr j fq fr (by (try dsimp only); first | omega | exact fun h => h) (by (try dsimp only); first | omega | exact fun h => h) (by (try dsimp only); first | omega | exact fun h => h) (by (try dsimp only); first | omega | exact fun h => h)
set_option maxHeartbeats 4000000 in
theorem wj_piece (n : Nat) (hn : 4294967297 < n) {σ : wt_St} (x1 x2 x3 : Int32) (v : wt_IV σ) (j : wt_JT σ) : wt_H (wp_ap_piece n x1 x2 x3 σ) (fun q => wt_H (wp_md_piece n x1 x2 x3 q.2.2) (fun r => wt_JT r.2)) := by
  refine (wq_ap_piece n hn x1 x2 x3 σ).h.imp (fun q hq => ?_)
  have fq := (by rw [hq.1]; exact wt_fr.rf : wt_fr (fun _ _ => False) (fun _ => False) σ q.2.2)
  have v2 : wt_IV q.2.2 := wt_IV_cls v fq (fun k => (by (try dsimp only); first | omega | exact fun h => h)) (fun i hi => (by (try dsimp only); first | omega | exact fun h => h))
  refine (wq_md_piece n hn x1 x2 x3 q.2.2 v2.1).h.imp (fun r hr => ?_)
  have fr := hr.1
  exact wt_JT_fr j fq fr (by (try dsimp only); first | omega | exact fun h => h) (by (try dsimp only); first | omega | exact fun h => h) (by (try dsimp only); first | omega | exact fun h => h) (by (try dsimp only); first | omega | exact fun h => h)
set_option maxHeartbeats 4000000 in
theorem wj_word (n : Nat) (hn : 4294967297 < n) {σ : wt_St} (x1 x2 : Int32) (v : wt_IV σ) (j : wt_JT σ) : wt_H (wp_ap_word n x1 x2 σ) (fun q => wt_H (wp_md_word n x1 x2 q.2.2) (fun r => wt_JT r.2)) := by
  refine (wq_ap_word n hn x1 x2 σ).h.imp (fun q hq => ?_)
  have fq := hq.1
  have v2 : wt_IV q.2.2 := wt_IV_cls v fq (fun k => (by (try dsimp only); first | omega | exact fun h => h)) (fun i hi => (by (try dsimp only); first | omega | exact fun h => h))
  refine (wq_md_word n hn x1 x2 q.2.2 v2.1).h.imp (fun r hr => ?_)
  have fr := hr.1
  exact wt_JT_fr j fq fr (by (try dsimp only); first | omega | exact fun h => h) (by (try dsimp only); first | omega | exact fun h => h) (by (try dsimp only); first | omega | exact fun h => h) (by (try dsimp only); first | omega | exact fun h => h)
set_option maxHeartbeats 4000000 in
theorem wj_at (n : Nat) (hn : 4294967297 < n) {σ : wt_St} (x1 x2 : Int32) (v : wt_IV σ) (j : wt_JT σ) : wt_H (wp_ap_at n x1 x2 σ) (fun q => wt_H (wp_md_at n x1 x2 q.2.2) (fun r => wt_JT r.2)) := by
  refine (wq_ap_at n hn x1 x2 σ).h.imp (fun q hq => ?_)
  have fq := (by rw [hq.1]; exact wt_fr.rf : wt_fr (fun _ _ => False) (fun _ => False) σ q.2.2)
  have v2 : wt_IV q.2.2 := wt_IV_cls v fq (fun k => (by (try dsimp only); first | omega | exact fun h => h)) (fun i hi => (by (try dsimp only); first | omega | exact fun h => h))
  refine (wq_md_at n hn x1 x2 q.2.2 v2.1).h.imp (fun r hr => ?_)
  have fr := hr.1
  exact wt_JT_fr j fq fr (by (try dsimp only); first | omega | exact fun h => h) (by (try dsimp only); first | omega | exact fun h => h) (by (try dsimp only); first | omega | exact fun h => h) (by (try dsimp only); first | omega | exact fun h => h)
set_option maxHeartbeats 4000000 in
theorem wj_needs (n : Nat) (hn : 4294967297 < n) {σ : wt_St} (x1 x2 : Int32) (v : wt_IV σ) (j : wt_JT σ) : wt_H (wp_ap_needs n x1 x2 σ) (fun q => wt_H (wp_md_needs n x1 x2 q.2.2) (fun r => wt_JT r.2)) := by
  refine (wq_ap_needs n hn x1 x2 σ).h.imp (fun q hq => ?_)
  have fq := (by rw [hq.1]; exact wt_fr.rf : wt_fr (fun _ _ => False) (fun _ => False) σ q.2.2)
  have v2 : wt_IV q.2.2 := wt_IV_cls v fq (fun k => (by (try dsimp only); first | omega | exact fun h => h)) (fun i hi => (by (try dsimp only); first | omega | exact fun h => h))
  refine (wq_md_needs n hn x1 x2 q.2.2 v2.1).h.imp (fun r hr => ?_)
  have fr := hr.1
  exact wt_JT_fr j fq fr (by (try dsimp only); first | omega | exact fun h => h) (by (try dsimp only); first | omega | exact fun h => h) (by (try dsimp only); first | omega | exact fun h => h) (by (try dsimp only); first | omega | exact fun h => h)
set_option maxHeartbeats 4000000 in
theorem wj_habit (n : Nat) (hn : 4294967297 < n) {σ : wt_St} (x1 : Int32) (v : wt_IV σ) (j : wt_JT σ) : wt_H (wp_ap_habit n x1 σ) (fun q => wt_H (wp_md_habit n x1 q.2.2) (fun r => wt_JT r.2)) := by
  refine (wq_ap_habit n hn x1 σ).h.imp (fun q hq => ?_)
  have fq := hq.1
  have v2 : wt_IV q.2.2 := wt_IV_cls v fq (fun k => (by (try dsimp only); first | omega | exact fun h => h)) (fun i hi => (by (try dsimp only); first | omega | exact fun h => h))
  refine (wq_md_habit n hn x1 q.2.2 v2.1).h.imp (fun r hr => ?_)
  have fr := hr.1
  exact wt_JT_fr j fq fr (by (try dsimp only); first | omega | exact fun h => h) (by (try dsimp only); first | omega | exact fun h => h) (by (try dsimp only); first | omega | exact fun h => h) (by (try dsimp only); first | omega | exact fun h => h)
set_option maxHeartbeats 4000000 in
theorem wj_can (n : Nat) (hn : 4294967297 < n) {σ : wt_St} (x1 : Int32) (v : wt_IV σ) (j : wt_JT σ) : wt_H (wp_ap_can n x1 σ) (fun q => wt_H (wp_md_can n x1 q.2.2) (fun r => wt_JT r.2)) := by
  refine (wq_ap_can n hn x1 σ).h.imp (fun q hq => ?_)
  have fq := hq.1
  have v2 : wt_IV q.2.2 := wt_IV_cls v fq (fun k => (by (try dsimp only); first | omega | exact fun h => h)) (fun i hi => (by (try dsimp only); first | omega | exact fun h => h))
  refine (wq_md_can n hn x1 q.2.2 v2.1).h.imp (fun r hr => ?_)
  have fr := hr.1
  exact wt_JT_fr j fq fr (by (try dsimp only); first | omega | exact fun h => h) (by (try dsimp only); first | omega | exact fun h => h) (by (try dsimp only); first | omega | exact fun h => h) (by (try dsimp only); first | omega | exact fun h => h)
set_option maxHeartbeats 4000000 in
theorem wj_lacks (n : Nat) (hn : 4294967297 < n) {σ : wt_St} (x1 x2 : Int32) (v : wt_IV σ) (j : wt_JT σ) : wt_H (wp_ap_lacks n x1 x2 σ) (fun q => wt_H (wp_md_lacks n x1 x2 q.2.2) (fun r => wt_JT r.2)) := by
  refine (wq_ap_lacks n hn x1 x2 σ).h.imp (fun q hq => ?_)
  have fq := hq.1
  have v2 : wt_IV q.2.2 := wt_IV_cls v fq (fun k => (by (try dsimp only); first | omega | exact fun h => h)) (fun i hi => (by (try dsimp only); first | omega | exact fun h => h))
  refine (wq_md_lacks n hn x1 x2 q.2.2 v2.1).h.imp (fun r hr => ?_)
  have fr := hr.1
  exact wt_JT_fr j fq fr (by (try dsimp only); first | omega | exact fun h => h) (by (try dsimp only); first | omega | exact fun h => h) (by (try dsimp only); first | omega | exact fun h => h) (by (try dsimp only); first | omega | exact fun h => h)
set_option maxHeartbeats 4000000 in
theorem wj_set (n : Nat) (hn : 4294967297 < n) {σ : wt_St} (x1 x2 : Int32) (v : wt_IV σ) (j : wt_JT σ) : wt_H (wp_ap_set n x1 x2 σ) (fun q => wt_H (wp_md_set n x1 x2 q.2.2) (fun r => wt_JT r.2)) := by
  refine (wq_ap_set n hn x1 x2 σ).h.imp (fun q hq => ?_)
  have fq := hq.1
  have v2 : wt_IV q.2.2 := wt_IV_cls v fq (fun k => (by (try dsimp only); first | omega | exact fun h => h)) (fun i hi => (by (try dsimp only); first | omega | exact fun h => h))
  refine (wq_md_set n hn x1 x2 q.2.2 v2.1).h.imp (fun r hr => ?_)
  have fr := hr.1
  exact wt_JT_fr j fq fr (by (try dsimp only); first | omega | exact fun h => h) (by (try dsimp only); first | omega | exact fun h => h) (by (try dsimp only); first | omega | exact fun h => h) (by (try dsimp only); first | omega | exact fun h => h)
set_option maxHeartbeats 4000000 in
theorem wj_print (n : Nat) (hn : 4294967297 < n) {σ : wt_St} (x1 x2 : Int32) (v : wt_IV σ) (j : wt_JT σ) : wt_H (wp_ap_print n x1 x2 σ) (fun q => wt_H (wp_md_print n x1 x2 q.2.2) (fun r => wt_JT r.2)) := by
  refine (wq_ap_print n hn x1 x2 σ).h.imp (fun q hq => ?_)
  have fq := hq.1
  have v2 : wt_IV q.2.2 := wt_IV_cls v fq (fun k => (by (try dsimp only); first | omega | exact fun h => h)) (fun i hi => (by (try dsimp only); first | omega | exact fun h => h))
  refine (wq_md_print n hn x1 x2 q.2.2 v2.1 v2.2.2.2.1).h.imp (fun r hr => ?_)
  have fr := hr.1
  exact wt_JT_fr j fq fr (by (try dsimp only); first | omega | exact fun h => h) (by (try dsimp only); first | omega | exact fun h => h) (by (try dsimp only); first | omega | exact fun h => h) (by (try dsimp only); first | omega | exact fun h => h)
set_option maxHeartbeats 4000000 in
theorem wj_apart (n : Nat) (hn : 4294967297 < n) {σ : wt_St} (x1 : Int32) (v : wt_IV σ) (j : wt_JT σ) : wt_H (wp_ap_apart n x1 σ) (fun q => wt_H (wp_md_apart n x1 q.2.2) (fun r => wt_JT r.2)) := by
  refine (wq_ap_apart n hn x1 σ).h.imp (fun q hq => ?_)
  have fq := hq.1
  have v2 : wt_IV q.2.2 := wt_IV_cls v fq (fun k => (by (try dsimp only); first | omega | exact fun h => h)) (fun i hi => (by (try dsimp only); first | omega | exact fun h => h))
  refine (wq_md_apart n hn x1 q.2.2 v2.1).h.imp (fun r hr => ?_)
  have fr := hr.1
  exact wt_JT_fr j fq fr (by (try dsimp only); first | omega | exact fun h => h) (by (try dsimp only); first | omega | exact fun h => h) (by (try dsimp only); first | omega | exact fun h => h) (by (try dsimp only); first | omega | exact fun h => h)
set_option maxHeartbeats 4000000 in
theorem wj_page (n : Nat) (hn : 4294967297 < n) {σ : wt_St} (x1 x2 : Int32) (v : wt_IV σ) (j : wt_JT σ) : wt_H (wp_ap_page n x1 x2 σ) (fun q => wt_H (wp_md_page n x1 x2 q.2.2) (fun r => wt_JT r.2)) := by
  refine (wq_ap_page n hn x1 x2 σ).h.imp (fun q hq => ?_)
  have fq := hq.1
  have v2 : wt_IV q.2.2 := wt_IV_cls v fq (fun k => (by (try dsimp only); first | omega | exact fun h => h)) (fun i hi => (by (try dsimp only); first | omega | exact fun h => h))
  refine (wq_md_page n hn x1 x2 q.2.2 v2.1 v2.2.2.1).h.imp (fun r hr => ?_)
  have fr := hr.1
  exact wt_JT_fr j fq fr (by (try dsimp only); first | omega | exact fun h => h) (by (try dsimp only); first | omega | exact fun h => h) (by (try dsimp only); first | omega | exact fun h => h) (by (try dsimp only); first | omega | exact fun h => h)
set_option maxHeartbeats 4000000 in
theorem wj_read (n : Nat) (hn : 4294967297 < n) {σ : wt_St} (x1 x2 : Int32) (v : wt_IV σ) (j : wt_JT σ) : wt_H (wp_ap_read n x1 x2 σ) (fun q => wt_H (wp_md_read n x1 x2 q.2.2) (fun r => wt_JT r.2)) := by
  refine (wq_ap_read n hn x1 x2 σ).h.imp (fun q hq => ?_)
  have fq := hq.1
  have v2 : wt_IV q.2.2 := wt_IV_cls v fq (fun k => (by (try dsimp only); first | omega | exact fun h => h)) (fun i hi => (by (try dsimp only); first | omega | exact fun h => h))
  refine (wq_md_read n hn x1 x2 q.2.2 v2.1 v2.2.2.1).h.imp (fun r hr => ?_)
  have fr := hr.1
  exact wt_JT_fr j fq fr (by (try dsimp only); first | omega | exact fun h => h) (by (try dsimp only); first | omega | exact fun h => h) (by (try dsimp only); first | omega | exact fun h => h) (by (try dsimp only); first | omega | exact fun h => h)
set_option maxHeartbeats 4000000 in
theorem wj_least (n : Nat) (hn : 4294967297 < n) {σ : wt_St} (x1 x2 x3 : Int32) (v : wt_IV σ) (j : wt_JT σ) : wt_H (wp_ap_least n x1 x2 x3 σ) (fun q => wt_H (wp_md_least n x1 x2 x3 q.2.2) (fun r => wt_JT r.2)) := by
  refine (wq_ap_least n hn x1 x2 x3 σ).h.imp (fun q hq => ?_)
  have fq := hq.1
  have v2 : wt_IV q.2.2 := wt_IV_cls v fq (fun k => (by (try dsimp only); first | omega | exact fun h => h)) (fun i hi => (by (try dsimp only); first | omega | exact fun h => h))
  refine (wq_md_least n hn x1 x2 x3 q.2.2 v2.1).h.imp (fun r hr => ?_)
  have fr := hr.1
  exact wt_JT_fr j fq fr (by (try dsimp only); first | omega | exact fun h => h) (by (try dsimp only); first | omega | exact fun h => h) (by (try dsimp only); first | omega | exact fun h => h) (by (try dsimp only); first | omega | exact fun h => h)
set_option maxHeartbeats 4000000 in
theorem wj_fitting (n : Nat) (hn : 4294967297 < n) {σ : wt_St} (x1 x2 x3 x4 : Int32) (v : wt_IV σ) (j : wt_JT σ) : wt_H (wp_ap_fitting n x1 x2 x3 x4 σ) (fun q => wt_H (wp_md_fitting n x1 x2 x3 x4 q.2.2) (fun r => wt_JT r.2)) := by
  refine (wq_ap_fitting n hn x1 x2 x3 x4 σ).h.imp (fun q hq => ?_)
  have fq := hq.1
  have v2 : wt_IV q.2.2 := wt_IV_cls v fq (fun k => (by (try dsimp only); first | omega | exact fun h => h)) (fun i hi => (by (try dsimp only); first | omega | exact fun h => h))
  refine (wq_md_fitting n hn x1 x2 x3 x4 q.2.2 v2.1).h.imp (fun r hr => ?_)
  have fr := hr.1
  exact wt_JT_fr j fq fr (by (try dsimp only); first | omega | exact fun h => h) (by (try dsimp only); first | omega | exact fun h => h) (by (try dsimp only); first | omega | exact fun h => h) (by (try dsimp only); first | omega | exact fun h => h)
set_option maxHeartbeats 4000000 in
theorem wj_wordings (n : Nat) (hn : 4294967297 < n) {σ : wt_St} (x1 : Int32) (v : wt_IV σ) (j : wt_JT σ) : wt_H (wp_ap_wordings n x1 σ) (fun q => wt_H (wp_md_wordings n x1 q.2.2) (fun r => wt_JT r.2)) := by
  refine (wq_ap_wordings n hn x1 σ).h.imp (fun q hq => ?_)
  have fq := hq.1
  have v2 : wt_IV q.2.2 := wt_IV_cls v fq (fun k => (by (try dsimp only); first | omega | exact fun h => h)) (fun i hi => (by (try dsimp only); first | omega | exact fun h => h))
  refine (wq_md_wordings n hn x1 q.2.2 v2.1).h.imp (fun r hr => ?_)
  have fr := hr.1
  exact wt_JT_fr j fq fr (by (try dsimp only); first | omega | exact fun h => h) (by (try dsimp only); first | omega | exact fun h => h) (by (try dsimp only); first | omega | exact fun h => h) (by (try dsimp only); first | omega | exact fun h => h)
set_option maxHeartbeats 4000000 in
theorem wj_want (n : Nat) (hn : 4294967297 < n) {σ : wt_St} (x1 x2 x3 x4 : Int32) (v : wt_IV σ) (j : wt_JT σ) : wt_H (wp_ap_want n x1 x2 x3 x4 σ) (fun q => wt_H (wp_md_want n x1 x2 x3 x4 q.2.2) (fun r => wt_JT r.2)) := by
  refine (wq_ap_want n hn x1 x2 x3 x4 σ).h.imp (fun q hq => ?_)
  have fq := hq.1
  have v2 : wt_IV q.2.2 := wt_IV_cls v fq (fun k => (by (try dsimp only); first | omega | exact fun h => h)) (fun i hi => (by (try dsimp only); first | omega | exact fun h => h))
  refine (wq_md_want n hn x1 x2 x3 x4 q.2.2 v2.1).h.imp (fun r hr => ?_)
  have fr := hr.1
  exact wt_JT_fr j fq fr (by (try dsimp only); first | omega | exact fun h => h) (by (try dsimp only); first | omega | exact fun h => h) (by (try dsimp only); first | omega | exact fun h => h) (by (try dsimp only); first | omega | exact fun h => h)
set_option maxHeartbeats 4000000 in
theorem wj_forget (n : Nat) (hn : 4294967297 < n) {σ : wt_St} (v : wt_IV σ) (j : wt_JT σ) : wt_H (wp_ap_forget n σ) (fun q => wt_H (wp_md_forget n q.2) (fun r => wt_JT r.2)) := by
  refine (wq_ap_forget n hn σ).h.imp (fun q hq => ?_)
  have fq := hq
  have v2 : wt_IV q.2 := wt_IV_cls v fq (fun k => (by (try dsimp only); first | omega | exact fun h => h)) (fun i hi => (by (try dsimp only); first | omega | exact fun h => h))
  refine (wq_md_forget n hn q.2 v2.1).h.imp (fun r hr => ?_)
  have fr := hr.1
  exact wt_JT_fr j fq fr (by (try dsimp only); first | omega | exact fun h => h) (by (try dsimp only); first | omega | exact fun h => h) (by (try dsimp only); first | omega | exact fun h => h) (by (try dsimp only); first | omega | exact fun h => h)
set_option maxHeartbeats 4000000 in
theorem wj_most (n : Nat) (hn : 4294967297 < n) {σ : wt_St} (x1 : Int32) (v : wt_IV σ) (j : wt_JT σ) : wt_H (wp_ap_most n x1 σ) (fun q => wt_H (wp_md_most n x1 q.2.2) (fun r => wt_JT r.2)) := by
  refine (wq_ap_most n hn x1 σ).h.imp (fun q hq => ?_)
  have fq := hq.1
  have v2 : wt_IV q.2.2 := wt_IV_cls v fq (fun k => (by (try dsimp only); first | omega | exact fun h => h)) (fun i hi => (by (try dsimp only); first | omega | exact fun h => h))
  refine (wq_md_most n hn x1 q.2.2 v2.1).h.imp (fun r hr => ?_)
  have fr := hr.1
  exact wt_JT_fr j fq fr (by (try dsimp only); first | omega | exact fun h => h) (by (try dsimp only); first | omega | exact fun h => h) (by (try dsimp only); first | omega | exact fun h => h) (by (try dsimp only); first | omega | exact fun h => h)
set_option maxHeartbeats 4000000 in
theorem wj_greedy (n : Nat) (hn : 4294967297 < n) {σ : wt_St} (x1 : Int32) (v : wt_IV σ) (j : wt_JT σ) : wt_H (wp_ap_greedy n x1 σ) (fun q => wt_H (wp_md_greedy n x1 q.2.2) (fun r => wt_JT r.2)) := by
  refine (wq_ap_greedy n hn x1 σ).h.imp (fun q hq => ?_)
  have fq := hq.1
  have v2 : wt_IV q.2.2 := wt_IV_cls v fq (fun k => (by (try dsimp only); first | omega | exact fun h => h)) (fun i hi => (by (try dsimp only); first | omega | exact fun h => h))
  refine (wq_md_greedy n hn x1 q.2.2 v2.1).h.imp (fun r hr => ?_)
  have fr := hr.1
  exact wt_JT_fr j fq fr (by (try dsimp only); first | omega | exact fun h => h) (by (try dsimp only); first | omega | exact fun h => h) (by (try dsimp only); first | omega | exact fun h => h) (by (try dsimp only); first | omega | exact fun h => h)
set_option maxHeartbeats 4000000 in
theorem wj_bound (n : Nat) (hn : 4294967297 < n) {σ : wt_St} (v : wt_IV σ) (j : wt_JT σ) : wt_H (wp_ap_bound n σ) (fun q => wt_H (wp_md_bound n q.2) (fun r => wt_JT r.2)) := by
  refine (wq_ap_bound n hn σ).h.imp (fun q hq => ?_)
  have fq := (by rw [hq]; exact wt_fr.rf : wt_fr (fun _ _ => False) (fun _ => False) σ q.2)
  have v2 : wt_IV q.2 := wt_IV_cls v fq (fun k => (by (try dsimp only); first | omega | exact fun h => h)) (fun i hi => (by (try dsimp only); first | omega | exact fun h => h))
  refine (wq_md_bound n hn q.2 v2.1).h.imp (fun r hr => ?_)
  have fr := hr.1
  exact wt_JT_fr j fq fr (by (try dsimp only); first | omega | exact fun h => h) (by (try dsimp only); first | omega | exact fun h => h) (by (try dsimp only); first | omega | exact fun h => h) (by (try dsimp only); first | omega | exact fun h => h)
set_option maxHeartbeats 4000000 in
theorem wj_said (n : Nat) (hn : 4294967297 < n) {σ : wt_St} (x1 x2 : Int32) (v : wt_IV σ) (j : wt_JT σ) : wt_H (wp_ap_said n x1 x2 σ) (fun q => wt_H (wp_md_said n x1 x2 q.2.2) (fun r => wt_JT r.2)) := by
  refine (wq_ap_said n hn x1 x2 σ).h.imp (fun q hq => ?_)
  have fq := hq.1
  have v2 : wt_IV q.2.2 := wt_IV_cls v fq (fun k => (by (try dsimp only); first | omega | exact fun h => h)) (fun i hi => (by (try dsimp only); first | omega | exact fun h => h))
  refine (wq_md_said n hn x1 x2 q.2.2 v2.1).h.imp (fun r hr => ?_)
  have fr := hr.1
  exact wt_JT_fr j fq fr (by (try dsimp only); first | omega | exact fun h => h) (by (try dsimp only); first | omega | exact fun h => h) (by (try dsimp only); first | omega | exact fun h => h) (by (try dsimp only); first | omega | exact fun h => h)
set_option maxHeartbeats 4000000 in
theorem wj_lost (n : Nat) (hn : 4294967297 < n) {σ : wt_St} (x1 : Int32) (v : wt_IV σ) (j : wt_JT σ) : wt_H (wp_ap_lost n x1 σ) (fun q => wt_H (wp_md_lost n x1 q.2.2) (fun r => wt_JT r.2)) := by
  refine (wq_ap_lost n hn x1 σ).h.imp (fun q hq => ?_)
  have fq := hq.1
  have v2 : wt_IV q.2.2 := wt_IV_cls v fq (fun k => (by (try dsimp only); first | omega | exact fun h => h)) (fun i hi => (by (try dsimp only); first | omega | exact fun h => h))
  refine (wq_md_lost n hn x1 q.2.2 v2.1).h.imp (fun r hr => ?_)
  have fr := hr.1
  exact wt_JT_fr j fq fr (by (try dsimp only); first | omega | exact fun h => h) (by (try dsimp only); first | omega | exact fun h => h) (by (try dsimp only); first | omega | exact fun h => h) (by (try dsimp only); first | omega | exact fun h => h)
set_option maxHeartbeats 4000000 in
theorem wj_ends (n : Nat) (hn : 4294967297 < n) {σ : wt_St} (x1 : Int32) (v : wt_IV σ) (j : wt_JT σ) : wt_H (wp_ap_ends n x1 σ) (fun q => wt_H (wp_md_ends n x1 q.2.2) (fun r => wt_JT r.2)) := by
  refine (wq_ap_ends n hn x1 σ).h.imp (fun q hq => ?_)
  have fq := hq.1
  have v2 : wt_IV q.2.2 := wt_IV_cls v fq (fun k => (by (try dsimp only); first | omega | exact fun h => h)) (fun i hi => (by (try dsimp only); first | omega | exact fun h => h))
  refine (wq_md_ends n hn x1 q.2.2 v2.1).h.imp (fun r hr => ?_)
  have fr := hr.1
  exact wt_JT_fr j fq fr (by (try dsimp only); first | omega | exact fun h => h) (by (try dsimp only); first | omega | exact fun h => h) (by (try dsimp only); first | omega | exact fun h => h) (by (try dsimp only); first | omega | exact fun h => h)
set_option maxHeartbeats 4000000 in
theorem wj_exchange (n : Nat) (hn : 4294967297 < n) {σ : wt_St} (x1 : Int32) (v : wt_IV σ) (j : wt_JT σ) : wt_H (wp_ap_exchange n x1 σ) (fun q => wt_H (wp_md_exchange n x1 q.2.2) (fun r => wt_JT r.2)) := by
  refine (wq_ap_exchange n hn x1 σ).h.imp (fun q hq => ?_)
  have fq := hq.1
  have v2 : wt_IV q.2.2 := wt_IV_cls v fq (fun k => (by (try dsimp only); first | omega | exact fun h => h)) (fun i hi => (by (try dsimp only); first | omega | exact fun h => h))
  refine (wq_md_exchange n hn x1 q.2.2 v2.1 v2.2.1).h.imp (fun r hr => ?_)
  have fr := hr.1
  exact wt_JT_fr j fq fr (by (try dsimp only); first | omega | exact fun h => h) (by (try dsimp only); first | omega | exact fun h => h) (by (try dsimp only); first | omega | exact fun h => h) (by (try dsimp only); first | omega | exact fun h => h)
set_option maxHeartbeats 4000000 in
theorem wj_cast (n : Nat) (hn : 4294967297 < n) {σ : wt_St} (x1 x2 : Int32) (v : wt_IV σ) (j : wt_JT σ) : wt_H (wp_ap_cast n x1 x2 σ) (fun q => wt_H (wp_md_cast n x1 x2 q.2.2) (fun r => wt_JT r.2)) := by
  refine (wq_ap_cast n hn x1 x2 σ).h.imp (fun q hq => ?_)
  have fq := hq.1
  have v2 : wt_IV q.2.2 := wt_IV_cls v fq (fun k => (by (try dsimp only); first | omega | exact fun h => h)) (fun i hi => (by (try dsimp only); first | omega | exact fun h => h))
  refine (wq_md_cast n hn x1 x2 q.2.2 v2.1 v2.2.1).h.imp (fun r hr => ?_)
  have fr := hr.1
  exact wt_JT_fr j fq fr (by (try dsimp only); first | omega | exact fun h => h) (by (try dsimp only); first | omega | exact fun h => h) (by (try dsimp only); first | omega | exact fun h => h) (by (try dsimp only); first | omega | exact fun h => h)
set_option maxHeartbeats 4000000 in
theorem wj_together (n : Nat) (hn : 4294967297 < n) {σ : wt_St} (x1 : Int32) (v : wt_IV σ) (j : wt_JT σ) : wt_H (wp_ap_together n x1 σ) (fun q => wt_H (wp_md_together n x1 q.2.2) (fun r => wt_JT r.2)) := by
  refine (wq_ap_together n hn x1 σ).h.imp (fun q hq => ?_)
  have fq := hq.1
  have v2 : wt_IV q.2.2 := wt_IV_cls v fq (fun k => (by (try dsimp only); first | omega | exact fun h => h)) (fun i hi => (by (try dsimp only); first | omega | exact fun h => h))
  refine (wq_md_together n hn x1 q.2.2 v2.1).h.imp (fun r hr => ?_)
  have fr := hr.1
  exact wt_JT_fr j fq fr (by (try dsimp only); first | omega | exact fun h => h) (by (try dsimp only); first | omega | exact fun h => h) (by (try dsimp only); first | omega | exact fun h => h) (by (try dsimp only); first | omega | exact fun h => h)
set_option maxHeartbeats 4000000 in
theorem wj_count (n : Nat) (hn : 4294967297 < n) {σ : wt_St} (x1 : Int32) (v : wt_IV σ) (j : wt_JT σ) : wt_H (wp_ap_count n x1 σ) (fun q => wt_H (wp_md_count n x1 q.2) (fun r => wt_JT r.2)) := by
  refine (wq_ap_count n hn x1 σ).h.imp (fun q hq => ?_)
  have fq := (by rw [hq]; exact wt_fr.rf : wt_fr (fun _ _ => False) (fun _ => False) σ q.2)
  have v2 : wt_IV q.2 := wt_IV_cls v fq (fun k => (by (try dsimp only); first | omega | exact fun h => h)) (fun i hi => (by (try dsimp only); first | omega | exact fun h => h))
  refine (wq_md_count n hn x1 q.2 v2.1).h.imp (fun r hr => ?_)
  have fr := hr.1
  exact wt_JT_fr j fq fr (by (try dsimp only); first | omega | exact fun h => h) (by (try dsimp only); first | omega | exact fun h => h) (by (try dsimp only); first | omega | exact fun h => h) (by (try dsimp only); first | omega | exact fun h => h)
end WTQ1
-- 90a.tools.lean.txt
section WTQ2
/-! tools for what follows -/
theorem wt_fr.sf {F : Nat → Nat → Prop} {A : Nat → Prop} {σ s s' : wt_St} {i k : Nat} {v : Int32} (h : wt_fr F A σ s) (ε : s' = wt_sf s i k v) (hF : F i k) : wt_fr F A σ s' := wt_fr.tr h (wt_fr_sf ε) (fun i' k' z => by obtain ⟨z1, z2⟩ := z; rw [z1, z2]; exact hF) (fun _ z => z.elim)
theorem wt_fr.sa {F : Nat → Nat → Prop} {A : Nat → Prop} {σ s s' : wt_St} {i j : Nat} {v : Int32} (h : wt_fr F A σ s) (ε : s' = wt_sa s i j v) (hA : A i) : wt_fr F A σ s' := wt_fr.tr h (wt_fr_sa ε) (fun _ _ z => z.elim) (fun i' z => by have z' : i' = i := z; rw [z']; exact hA)
/-- x is the first below N of which P holds, or none such -/
def wt_fst (N : Nat) (P : Nat → Prop) (x : Int32) : Prop := (∃ w : Nat, w < N ∧ x.toInt = (w : Int) ∧ P w ∧ ∀ v, v < w → ¬ P v) ∨ (x = -1 ∧ ∀ v, v < N → ¬ P v)
theorem wt_fst_u {N : Nat} {P P' : Nat → Prop} {x y : Int32} (h : wt_fst N P x) (h' : wt_fst N P' y) (e : ∀ w, w < N → (P w ↔ P' w)) : x = y := by
  rcases h with ⟨w, a1, a2, a3, a4⟩ | ⟨a1, a2⟩
  · rcases h' with ⟨v, b1, b2, b3, b4⟩ | ⟨b1, b2⟩
    · rcases Nat.lt_trichotomy w v with c | c | c
      · exact absurd ((e w a1).mp a3) (b4 w c)
      · subst c
        exact wt_eqI (a2.trans b2.symm)
      · exact absurd ((e v b1).mpr b3) (a4 v c)
    · exact absurd ((e w a1).mp a3) (b2 w a1)
  · rcases h' with ⟨v, b1, b2, b3, b4⟩ | ⟨b1, b2⟩
    · exact absurd ((e v b1).mpr b3) (a2 v b1)
    · rw [a1, b1]
theorem wt_fst_no {N : Nat} {P : Nat → Prop} {x : Int32} (h : wt_fst N P x) (hx : ¬ x = -1) : ∃ w : Nat, w < N ∧ x.toInt = (w : Int) ∧ P w := by
  rcases h with ⟨w, a1, a2, a3, -⟩ | ⟨a1, -⟩
  · exact ⟨w, a1, a2, a3⟩
  · exact absurd a1 hx
/-! words: how one is found, by its letters -/
theorem wh_letterAt (n : Nat) (hn : 4294967297 < n) {t0 w k : Nat} {x1 x2 : Int32} {σ : wt_St} (hl : wt_ln (t0 + 1) = 540) (hw : x1.toInt = (w : Int)) (h6 : w < 60) (h2 : x2.toInt = (k : Int)) (hk : k < 9) : wt_H (wp_tg_letterAt n t0 x1 x2 σ) (fun q => q = (wt_ga σ (t0 + 1) (9 * w + k), σ)) := by
  have k9 : (9 : Int32).toInt = 9 := by decide
  have em := wt_mulR (x := x1) k9 (by omega) (by omega)
  have ea := wt_addE (x := x1 * (9 : Int32)) (y := x2) (by omega) (by omega)
  unfold wp_tg_letterAt
  refine wt_H_bh (wh_look n hn (k := 9 * w + k) (by omega) (by omega)) (fun q hq => ?_)
  subst hq
  exact wt_H_some rfl
theorem wh_isSpelled (n : Nat) (hn : 4294967297 < n) {t0 a2 w m : Nat} {x1 x3 : Int32} {σ : wt_St} (hl : wt_ln (t0 + 1) = 540) (ha : wt_ln a2 = 9) (hw : x1.toInt = (w : Int)) (h6 : w < 60) (h3 : x3.toInt = (m : Int)) (hm : m ≤ 9) : wt_H (wp_tg_isSpelled n t0 a2 x1 x3 σ) (fun q => q.2 = σ ∧ ((q.1 = 1 ∧ ∀ k, k < m → wt_ga σ (t0 + 1) (9 * w + k) = wt_ga σ a2 k) ∨ (q.1 = 0 ∧ ¬ ∀ k, k < m → wt_ga σ (t0 + 1) (9 * w + k) = wt_ga σ a2 k))) := by
  have k0 : (0 : Int32).toInt = 0 := by decide
  unfold wp_tg_isSpelled
  refine wt_H_it (fun s : Int32 × wt_St => s.2 = σ ∧ 0 ≤ s.1.toInt ∧ ∀ k : Nat, (k : Int) < s.1.toInt → wt_ga σ (t0 + 1) (9 * w + k) = wt_ga σ a2 k) (fun K s I hK => ?_) n _ ⟨rfl, by show 0 ≤ ((0 : Int32)).toInt; omega, fun k hk => absurd (show (k : Int) < ((0 : Int32)).toInt from hk) (by omega)⟩
  obtain ⟨i0, i1, i2⟩ := I
  have es := wt_tnI i1
  unfold wp_tg_isSpelled_B3
  rw [i0]
  refine wt_H_if (fun c => ?_) (fun c => ?_)
  · have c' := wt_cle c
    exact wt_H_some ⟨rfl, Or.inl ⟨rfl, fun k hk => i2 k (by omega)⟩⟩
  · have c' := wt_ncle c
    have ei := wt_i1 (c := s.1) (by omega)
    refine wt_H_bh (wh_letterAt n hn hl hw h6 (k := Int32.toNatClampNeg s.1) (by omega) (by omega)) (fun q hq => ?_)
    subst hq
    dsimp only
    refine wt_H_bh (wh_look n hn (k := Int32.toNatClampNeg s.1) (by omega) (by omega)) (fun q hq => ?_)
    subst hq
    dsimp only
    refine wt_H_if (fun d => ?_) (fun d => ?_)
    · refine hK _ ⟨rfl, by show 0 ≤ (s.1 + (1 : Int32)).toInt; omega, fun k hk => ?_⟩
      have hk' : (k : Int) < (s.1 + (1 : Int32)).toInt := hk
      by_cases hc : k = Int32.toNatClampNeg s.1
      · rw [hc]; exact d
      · exact i2 k (by omega)
    · exact wt_H_some ⟨rfl, Or.inr ⟨rfl, fun h => d (h _ (by omega))⟩⟩
def wt_sp (σ : wt_St) (t0 a1 : Nat) (x2 : Int32) (m w : Nat) : Prop := wt_ga σ (t0 + 2) w = x2 ∧ ∀ k, k < m → wt_ga σ (t0 + 1) (9 * w + k) = wt_ga σ a1 k
theorem wh_find (n : Nat) (hn : 4294967297 < n) {t0 a1 N m : Nat} {x2 : Int32} {σ : wt_St} (hl : wt_ln (t0 + 1) = 540) (hl2 : wt_ln (t0 + 2) = 60) (ha : wt_ln a1 = 9) (hN : (wt_gf σ t0 6).toInt = (N : Int)) (hN6 : N ≤ 60) (h2 : x2.toInt = (m : Int)) (hm : m ≤ 9) : wt_H (wp_tg_find n t0 a1 x2 σ) (fun q => q.2 = σ ∧ wt_fst N (wt_sp σ t0 a1 x2 m) q.1) := by
  have k0 : (0 : Int32).toInt = 0 := by decide
  unfold wp_tg_find
  refine wt_H_it (fun s : Int32 × wt_St => s.2 = σ ∧ 0 ≤ s.1.toInt ∧ ∀ w : Nat, (w : Int) < s.1.toInt → ¬ wt_sp σ t0 a1 x2 m w) (fun K s I hK => ?_) n _ ⟨rfl, by show 0 ≤ ((0 : Int32)).toInt; omega, fun k hk => absurd (show (k : Int) < ((0 : Int32)).toInt from hk) (by omega)⟩
  obtain ⟨i0, i1, i2⟩ := I
  have es := wt_tnI i1
  unfold wp_tg_find_B2
  rw [i0]
  refine wt_H_if (fun c => ?_) (fun c => ?_)
  · have c' := wt_cle c
    exact wt_H_some ⟨rfl, Or.inr ⟨rfl, fun v hv => i2 v (by omega)⟩⟩
  · have c' := wt_ncle c
    have ei := wt_i1 (c := s.1) (by omega)
    have NX : ¬ wt_sp σ t0 a1 x2 m (Int32.toNatClampNeg s.1) → wt_H (wp_tg_find_B34 n t0 a1 x2 s.1 K σ) (fun q => q.2 = σ ∧ wt_fst N (wt_sp σ t0 a1 x2 m) q.1) := fun hx => by
      unfold wp_tg_find_B34
      refine hK _ ⟨rfl, by show 0 ≤ (s.1 + (1 : Int32)).toInt; omega, fun w hw => ?_⟩
      have hw' : (w : Int) < (s.1 + (1 : Int32)).toInt := hw
      by_cases hc : w = Int32.toNatClampNeg s.1
      · rw [hc]; exact hx
      · exact i2 w (by omega)
    refine wt_H_bh (wh_look n hn (k := Int32.toNatClampNeg s.1) (by omega) (by omega)) (fun q hq => ?_)
    subst hq
    dsimp only
    refine wt_H_if (fun d => ?_) (fun d => NX (fun h => d h.1))
    refine wt_H_bh (wh_isSpelled n hn hl ha (w := Int32.toNatClampNeg s.1) (by omega) (by omega) h2 hm) (fun q4 h4 => ?_)
    obtain ⟨e4, h4⟩ := h4
    rw [e4]
    rcases h4 with ⟨z, h4⟩ | ⟨z, h4⟩
    · rw [if_neg (by rw [z]; decide)]
      exact wt_H_some ⟨rfl, Or.inl ⟨Int32.toNatClampNeg s.1, by omega, by (try dsimp only); omega, ⟨d, h4⟩, fun v hv => i2 v (by omega)⟩⟩
    · rw [if_pos z]
      exact NX (fun h => h4 h.2)
def wt_so (β : Nat → Int32) (σ : wt_St) (a3 L : Nat) (x1 : Int32) (m j w : Nat) : Prop := wt_ga σ a3 w = x1 ∧ ∀ k, k < m → wt_ga σ (L + w) k = β (j + k) - (97 : Int32)
theorem wh_wordOf_131 (n : Nat) {β : Nat → Int32} {e j a3 N m : Nat} {x1 x4 : Int32} {σ : wt_St} (rv : wt_rv β e j σ) (h1 : x1.toInt = (m : Int)) (hm : m ≤ 9) (hje : j + m ≤ e) (h4 : x4.toInt = (N : Int)) (hN : N ≤ 60) : wt_H (wp_md_wordOf_131 n a3 x1 x4 σ) (fun q => q.2 = σ ∧ wt_fst N (wt_so β σ a3 132 x1 m j) q.1) := by
  have k0 : (0 : Int32).toInt = 0 := by decide
  have t3 := rv.2.2.1
  have t5 := rv.2.2.2
  unfold wp_md_wordOf_131
  refine wt_H_it (fun s : Int32 × wt_St => s.2 = σ ∧ 0 ≤ s.1.toInt ∧ ∀ w : Nat, (w : Int) < s.1.toInt → ¬ wt_so β σ a3 132 x1 m j w) (fun K s I hK => ?_) n _ ⟨rfl, by show 0 ≤ ((0 : Int32)).toInt; omega, fun k hk => absurd (show (k : Int) < ((0 : Int32)).toInt from hk) (by omega)⟩
  obtain ⟨i0, i1, i2⟩ := I
  have es := wt_tnI i1
  unfold wp_md_wordOf_131_B3
  rw [i0]
  refine wt_H_if (fun c => ?_) (fun c => ?_)
  · have c' := wt_cle c
    exact wt_H_some ⟨rfl, Or.inr ⟨rfl, fun v hv => i2 v (by omega)⟩⟩
  · have c' := wt_ncle c
    have ei := wt_i1 (c := s.1) (by omega)
    refine wt_H_gd (fun g => ?_)
    have B : ∀ y : Int32, (y = 1 ∧ wt_ga σ a3 (Int32.toNatClampNeg s.1) = x1) ∨ (y = 0 ∧ ¬ wt_ga σ a3 (Int32.toNatClampNeg s.1) = x1) → wt_H (wp_md_wordOf_131_B23 n a3 x1 x4 s.1 K y σ) (fun q => q.2 = σ ∧ wt_fst N (wt_so β σ a3 132 x1 m j) q.1) := by
      intro y hy
      unfold wp_md_wordOf_131_B23
      refine wt_H_it (fun t : Int32 × Int32 × wt_St => t.2.2 = σ ∧ 0 ≤ t.2.1.toInt ∧ ((t.1 = 1 ∧ wt_ga σ a3 (Int32.toNatClampNeg s.1) = x1 ∧ ∀ k : Nat, (k : Int) < t.2.1.toInt → wt_ga σ (132 + Int32.toNatClampNeg s.1) k = β (j + k) - (97 : Int32)) ∨ (t.1 = 0 ∧ ¬ wt_so β σ a3 132 x1 m j (Int32.toNatClampNeg s.1)))) (fun K2 t J hK2 => ?_) n _ ⟨rfl, by show 0 ≤ ((0 : Int32)).toInt; omega, ?_⟩
      rotate_left
      · rcases hy with ⟨a, b⟩ | ⟨a, b⟩
        · exact Or.inl ⟨a, b, fun k hk => absurd (show (k : Int) < ((0 : Int32)).toInt from hk) (by omega)⟩
        · exact Or.inr ⟨a, fun h => b h.1⟩
      obtain ⟨j0, j1, j2⟩ := J
      have et := wt_tnI j1
      have E : (t.1 = 1 ∧ wt_so β σ a3 132 x1 m j (Int32.toNatClampNeg s.1)) ∨ (t.1 = 0 ∧ ¬ wt_so β σ a3 132 x1 m j (Int32.toNatClampNeg s.1)) → wt_H (wp_md_wordOf_131_B76 n a3 x1 x4 s.1 t.1 K σ) (fun q => q.2 = σ ∧ wt_fst N (wt_so β σ a3 132 x1 m j) q.1) := by
        intro hE
        unfold wp_md_wordOf_131_B76
        rcases hE with ⟨a, b⟩ | ⟨a, b⟩
        · rw [if_neg (by rw [a]; decide)]
          exact wt_H_some ⟨rfl, Or.inl ⟨Int32.toNatClampNeg s.1, by omega, by (try dsimp only); omega, b, fun v hv => i2 v (by omega)⟩⟩
        · rw [if_pos a]
          refine hK _ ⟨rfl, by show 0 ≤ (s.1 + (1 : Int32)).toInt; omega, fun w hw => ?_⟩
          have hw' : (w : Int) < (s.1 + (1 : Int32)).toInt := hw
          by_cases hc : w = Int32.toNatClampNeg s.1
          · rw [hc]; exact b
          · exact i2 w (by omega)
      unfold wp_md_wordOf_131_B28
      rw [j0]
      refine wt_H_if (fun d => ?_) (fun d => ?_)
      · have d' := wt_cle d
        exact E (j2.imp (fun h => ⟨h.1, h.2.1, fun k hk => h.2.2 k (by omega)⟩) (fun h => h))
      · have d' := wt_ncle d
        refine wt_H_if (fun f => ?_) (fun f => ?_)
        · rcases j2 with ⟨a, -⟩ | ⟨a, b⟩
          · exact absurd (a.symm.trans f) (by decide)
          · exact E (Or.inr ⟨a, b⟩)
        · rcases j2 with ⟨a, b, p⟩ | ⟨a, b⟩
          · refine wt_H_gd (fun _ => ?_)
            refine wt_H_gd (fun _ => ?_)
            have ek := wt_addE (x := wt_gf σ 108 4) (y := t.2.1) (by omega) (by omega)
            have ej := wt_i1 (c := t.2.1) (by omega)
            refine wt_H_bh (wh_byteAt n rv (j := j + Int32.toNatClampNeg t.2.1) (by omega)) (fun q hq => ?_)
            rcases hq with ⟨hq, -⟩ | ⟨-, hq⟩
            · omega
            · subst hq
              dsimp only
              refine wt_H_if (fun f2 => ?_) (fun f2 => ?_)
              · unfold wp_md_wordOf_131_B68
                refine hK2 _ ⟨rfl, by show 0 ≤ (t.2.1 + (1 : Int32)).toInt; omega, Or.inl ⟨rfl, b, fun k hk => ?_⟩⟩
                have hk' : (k : Int) < (t.2.1 + (1 : Int32)).toInt := hk
                by_cases hc : k = Int32.toNatClampNeg t.2.1
                · rw [hc]; exact f2
                · exact p k (by omega)
              · unfold wp_md_wordOf_131_B68
                exact hK2 _ ⟨rfl, by show 0 ≤ (t.2.1 + (1 : Int32)).toInt; omega, Or.inr ⟨rfl, fun h => f2 (h.2 _ (by omega))⟩⟩
          · exact absurd a f
    exact wt_H_if (fun d => B _ (Or.inl ⟨rfl, d⟩)) (fun d => B _ (Or.inr ⟨rfl, d⟩))
theorem wh_wordOf_192 (n : Nat) {β : Nat → Int32} {e j a3 N m : Nat} {x1 x4 : Int32} {σ : wt_St} (rv : wt_rv β e j σ) (h1 : x1.toInt = (m : Int)) (hm : m ≤ 9) (hje : j + m ≤ e) (h4 : x4.toInt = (N : Int)) (hN : N ≤ 60) : wt_H (wp_md_wordOf_192 n a3 x1 x4 σ) (fun q => q.2 = σ ∧ wt_fst N (wt_so β σ a3 193 x1 m j) q.1) := by
  have k0 : (0 : Int32).toInt = 0 := by decide
  have t3 := rv.2.2.1
  have t5 := rv.2.2.2
  unfold wp_md_wordOf_192
  refine wt_H_it (fun s : Int32 × wt_St => s.2 = σ ∧ 0 ≤ s.1.toInt ∧ ∀ w : Nat, (w : Int) < s.1.toInt → ¬ wt_so β σ a3 193 x1 m j w) (fun K s I hK => ?_) n _ ⟨rfl, by show 0 ≤ ((0 : Int32)).toInt; omega, fun k hk => absurd (show (k : Int) < ((0 : Int32)).toInt from hk) (by omega)⟩
  obtain ⟨i0, i1, i2⟩ := I
  have es := wt_tnI i1
  unfold wp_md_wordOf_192_B3
  rw [i0]
  refine wt_H_if (fun c => ?_) (fun c => ?_)
  · have c' := wt_cle c
    exact wt_H_some ⟨rfl, Or.inr ⟨rfl, fun v hv => i2 v (by omega)⟩⟩
  · have c' := wt_ncle c
    have ei := wt_i1 (c := s.1) (by omega)
    refine wt_H_gd (fun g => ?_)
    have B : ∀ y : Int32, (y = 1 ∧ wt_ga σ a3 (Int32.toNatClampNeg s.1) = x1) ∨ (y = 0 ∧ ¬ wt_ga σ a3 (Int32.toNatClampNeg s.1) = x1) → wt_H (wp_md_wordOf_192_B23 n a3 x1 x4 s.1 K y σ) (fun q => q.2 = σ ∧ wt_fst N (wt_so β σ a3 193 x1 m j) q.1) := by
      intro y hy
      unfold wp_md_wordOf_192_B23
      refine wt_H_it (fun t : Int32 × Int32 × wt_St => t.2.2 = σ ∧ 0 ≤ t.2.1.toInt ∧ ((t.1 = 1 ∧ wt_ga σ a3 (Int32.toNatClampNeg s.1) = x1 ∧ ∀ k : Nat, (k : Int) < t.2.1.toInt → wt_ga σ (193 + Int32.toNatClampNeg s.1) k = β (j + k) - (97 : Int32)) ∨ (t.1 = 0 ∧ ¬ wt_so β σ a3 193 x1 m j (Int32.toNatClampNeg s.1)))) (fun K2 t J hK2 => ?_) n _ ⟨rfl, by show 0 ≤ ((0 : Int32)).toInt; omega, ?_⟩
      rotate_left
      · rcases hy with ⟨a, b⟩ | ⟨a, b⟩
        · exact Or.inl ⟨a, b, fun k hk => absurd (show (k : Int) < ((0 : Int32)).toInt from hk) (by omega)⟩
        · exact Or.inr ⟨a, fun h => b h.1⟩
      obtain ⟨j0, j1, j2⟩ := J
      have et := wt_tnI j1
      have E : (t.1 = 1 ∧ wt_so β σ a3 193 x1 m j (Int32.toNatClampNeg s.1)) ∨ (t.1 = 0 ∧ ¬ wt_so β σ a3 193 x1 m j (Int32.toNatClampNeg s.1)) → wt_H (wp_md_wordOf_192_B76 n a3 x1 x4 s.1 t.1 K σ) (fun q => q.2 = σ ∧ wt_fst N (wt_so β σ a3 193 x1 m j) q.1) := by
        intro hE
        unfold wp_md_wordOf_192_B76
        rcases hE with ⟨a, b⟩ | ⟨a, b⟩
        · rw [if_neg (by rw [a]; decide)]
          exact wt_H_some ⟨rfl, Or.inl ⟨Int32.toNatClampNeg s.1, by omega, by (try dsimp only); omega, b, fun v hv => i2 v (by omega)⟩⟩
        · rw [if_pos a]
          refine hK _ ⟨rfl, by show 0 ≤ (s.1 + (1 : Int32)).toInt; omega, fun w hw => ?_⟩
          have hw' : (w : Int) < (s.1 + (1 : Int32)).toInt := hw
          by_cases hc : w = Int32.toNatClampNeg s.1
          · rw [hc]; exact b
          · exact i2 w (by omega)
      unfold wp_md_wordOf_192_B28
      rw [j0]
      refine wt_H_if (fun d => ?_) (fun d => ?_)
      · have d' := wt_cle d
        exact E (j2.imp (fun h => ⟨h.1, h.2.1, fun k hk => h.2.2 k (by omega)⟩) (fun h => h))
      · have d' := wt_ncle d
        refine wt_H_if (fun f => ?_) (fun f => ?_)
        · rcases j2 with ⟨a, -⟩ | ⟨a, b⟩
          · exact absurd (a.symm.trans f) (by decide)
          · exact E (Or.inr ⟨a, b⟩)
        · rcases j2 with ⟨a, b, p⟩ | ⟨a, b⟩
          · refine wt_H_gd (fun _ => ?_)
            refine wt_H_gd (fun _ => ?_)
            have ek := wt_addE (x := wt_gf σ 108 4) (y := t.2.1) (by omega) (by omega)
            have ej := wt_i1 (c := t.2.1) (by omega)
            refine wt_H_bh (wh_byteAt n rv (j := j + Int32.toNatClampNeg t.2.1) (by omega)) (fun q hq => ?_)
            rcases hq with ⟨hq, -⟩ | ⟨-, hq⟩
            · omega
            · subst hq
              dsimp only
              refine wt_H_if (fun f2 => ?_) (fun f2 => ?_)
              · unfold wp_md_wordOf_192_B68
                refine hK2 _ ⟨rfl, by show 0 ≤ (t.2.1 + (1 : Int32)).toInt; omega, Or.inl ⟨rfl, b, fun k hk => ?_⟩⟩
                have hk' : (k : Int) < (t.2.1 + (1 : Int32)).toInt := hk
                by_cases hc : k = Int32.toNatClampNeg t.2.1
                · rw [hc]; exact f2
                · exact p k (by omega)
              · unfold wp_md_wordOf_192_B68
                exact hK2 _ ⟨rfl, by show 0 ≤ (t.2.1 + (1 : Int32)).toInt; omega, Or.inr ⟨rfl, fun h => f2 (h.2 _ (by omega))⟩⟩
          · exact absurd a f
    exact wt_H_if (fun d => B _ (Or.inl ⟨rfl, d⟩)) (fun d => B _ (Or.inr ⟨rfl, d⟩))
end WTQ2
-- 90b.words.lean.txt
section WTQ3
/-! a tongue that is read: its words and groups, on both sides -/
def wt_tt (t a b c L W : Nat) (s z : wt_St) : Prop := ∀ w, w < W → wt_ga s (t + 2) w = wt_ga z a w ∧ wt_ga s (t + 3) w = wt_ga z b w ∧ wt_ga s (t + 4) w = wt_ga z c w ∧ (1 ≤ (wt_ga s (t + 2) w).toInt ∧ (wt_ga s (t + 2) w).toInt ≤ 9) ∧ (0 ≤ (wt_ga s (t + 3) w).toInt ∧ (wt_ga s (t + 3) w).toInt ≤ 3) ∧ ∀ k : Nat, (k : Int) < (wt_ga s (t + 2) w).toInt → wt_ga s (t + 1) (9 * w + k) = wt_ga z (L + w) k ∧ 0 ≤ (wt_ga s (t + 1) (9 * w + k)).toInt ∧ (wt_ga s (t + 1) (9 * w + k)).toInt ≤ 25
def wt_gs (t W G : Nat) (s : wt_St) : Prop := (∀ g, g < G → ∃ f m : Nat, (wt_ga s (t + 5) g).toInt = (f : Int) ∧ (wt_ga s (t + 6) g).toInt = (m : Int) ∧ 1 ≤ m ∧ m ≤ 5 ∧ f + m ≤ W ∧ ∀ w, w < W → ((wt_ga s (t + 4) w).toInt = (g : Int) ↔ f ≤ w ∧ w < f + m)) ∧ ∀ w, w < W → 0 ≤ (wt_ga s (t + 4) w).toInt ∧ (wt_ga s (t + 4) w).toInt < (G : Int)
theorem wt_tt_eq {t a b c L W : Nat} {s s' z z' : wt_St} (h : wt_tt t a b c L W s z) (h1 : ∀ i, i = t + 2 ∨ i = t + 3 ∨ i = t + 4 → ∀ w, w < W → wt_ga s' i w = wt_ga s i w) (h1' : ∀ j, j < 9 * W → wt_ga s' (t + 1) j = wt_ga s (t + 1) j) (h2 : ∀ i, i = a ∨ i = b ∨ i = c → ∀ w, w < W → wt_ga z' i w = wt_ga z i w) (h3 : ∀ w, w < W → ∀ k, wt_ga z' (L + w) k = wt_ga z (L + w) k) : wt_tt t a b c L W s' z' := fun w hw => by
  rw [h1 (t + 2) (by omega) w hw, h1 (t + 3) (by omega) w hw, h1 (t + 4) (by omega) w hw, h2 a (by omega) w hw, h2 b (by omega) w hw, h2 c (by omega) w hw]
  obtain ⟨e1, e2, e3, e4, e5, e6⟩ := h w hw
  refine ⟨e1, e2, e3, e4, e5, fun k hk => ?_⟩
  rw [h1' (9 * w + k) (by omega), h3 w hw]
  exact e6 k hk
theorem wt_tt_fr {t a b c L W : Nat} {s s' z z' : wt_St} {F F' : Nat → Nat → Prop} {A A' : Nat → Prop} (h : wt_tt t a b c L W s z) (f : wt_fr F A s s') (g : wt_fr F' A' z z') (h1 : ∀ i, t < i → i < t + 5 → ¬ A i) (h2 : ∀ i, i = a ∨ i = b ∨ i = c ∨ (L ≤ i ∧ i < L + W) → ¬ A' i) : wt_tt t a b c L W s' z' := wt_tt_eq h (fun i hi w _ => f.2 i (h1 i (by omega) (by omega)) w) (fun j _ => f.2 (t + 1) (h1 _ (by omega) (by omega)) j) (fun i hi w _ => g.2 i (h2 i (by omega)) w) (fun w hw k => g.2 (L + w) (h2 _ (by omega)) k)
theorem wt_gs_eq {t W G : Nat} {s s' : wt_St} (h : wt_gs t W G s) (h4 : ∀ w, w < W → wt_ga s' (t + 4) w = wt_ga s (t + 4) w) (h5 : ∀ i, i = t + 5 ∨ i = t + 6 → ∀ g, g < G → wt_ga s' i g = wt_ga s i g) : wt_gs t W G s' := by
  refine ⟨fun g hg => ?_, fun w hw => by rw [h4 w hw]; exact h.2 w hw⟩
  obtain ⟨f, m, a1, a2, a3, a4, a5, a6⟩ := h.1 g hg
  refine ⟨f, m, by rw [h5 _ (Or.inl rfl) g hg]; exact a1, by rw [h5 _ (Or.inr rfl) g hg]; exact a2, a3, a4, a5, fun w hw => ?_⟩
  rw [h4 w hw]
  exact a6 w hw
theorem wt_gs_fr {t W G : Nat} {s s' : wt_St} {F : Nat → Nat → Prop} {A : Nat → Prop} (h : wt_gs t W G s) (f : wt_fr F A s s') (h1 : ∀ i, t + 3 < i → i < t + 7 → ¬ A i) : wt_gs t W G s' := wt_gs_eq h (fun w _ => f.2 _ (h1 _ (by omega) (by omega)) w) (fun i hi g _ => f.2 i (h1 i (by omega) (by omega)) g)
/-- F words stand in G whole groups, k more in the one that is read -/
def wt_gr (F k G : Nat) (s z : wt_St) : Prop := ((wt_gf s 27 6).toInt = ((F + k : Nat) : Int) ∧ (wt_gf z 108 27).toInt = ((F + k : Nat) : Int) ∧ F + k ≤ 60) ∧ ((wt_gf s 27 7).toInt = (G : Int) ∧ (wt_gf z 108 29).toInt = ((G + min k 1 : Nat) : Int) ∧ G + min k 1 ≤ 20) ∧ wt_tt 27 125 127 129 132 (F + k) s z ∧ wt_gs 27 F G s ∧ (∀ w, F ≤ w → w < F + k → (wt_ga s 31 w).toInt = (G : Int)) ∧ wt_gf s 1 7 = wt_gf z 108 6
theorem wt_gr_fr {F k G : Nat} {s s' z z' : wt_St} {Fc Fm : Nat → Nat → Prop} {Ac Am : Nat → Prop} (h : wt_gr F k G s z) (f : wt_fr Fc Ac s s') (g : wt_fr Fm Am z z') (c1 : ∀ i, 27 < i → i < 34 → ¬ Ac i) (c2 : ∀ k, ¬ Fc 27 k) (c3 : ¬ Fc 1 7) (m1 : ∀ i, i = 125 ∨ i = 127 ∨ i = 129 ∨ (132 ≤ i ∧ i < 192) → ¬ Am i) (m2 : ¬ Fm 108 27) (m3 : ¬ Fm 108 29) (m4 : ¬ Fm 108 6) : wt_gr F k G s' z' := by
  obtain ⟨a, b, c, d, e, p⟩ := h
  refine ⟨?_, ?_, wt_tt_fr c f g (fun i h1 h2 => c1 i (by omega) (by omega)) (fun i hi => m1 i (by omega)), wt_gs_fr d f (fun i h1 h2 => c1 i (by omega) (by omega)), fun w h1 h2 => ?_, ?_⟩
  · rw [f.1 27 6 (c2 6), g.1 108 27 m2]; exact a
  · rw [f.1 27 7 (c2 7), g.1 108 29 m3]; exact b
  · rw [f.2 31 (c1 31 (by omega) (by omega))]; exact e w h1 h2
  · rw [f.1 1 7 c3, g.1 108 6 m4]; exact p
/-- one more word is read, but for its mark -/
def wt_gw (F k G m : Nat) (s z : wt_St) : Prop := wt_gr F k G s z ∧ F + k < 60 ∧ (wt_ga z 125 (F + k)).toInt = (m : Int) ∧ 1 ≤ m ∧ m ≤ 9 ∧ ∀ i, i < m → wt_ga s 28 (9 * (F + k) + i) = wt_ga z (132 + (F + k)) i ∧ 0 ≤ (wt_ga s 28 (9 * (F + k) + i)).toInt ∧ (wt_ga s 28 (9 * (F + k) + i)).toInt ≤ 25
theorem wt_gw_fr {F k G m : Nat} {s s' z z' : wt_St} {Fc Fm : Nat → Nat → Prop} {Ac Am : Nat → Prop} (h : wt_gw F k G m s z) (f : wt_fr Fc Ac s s') (g : wt_fr Fm Am z z') (c1 : ∀ i, 27 < i → i < 34 → ¬ Ac i) (c2 : ∀ k, ¬ Fc 27 k) (c3 : ¬ Fc 1 7) (m1 : ∀ i, i = 125 ∨ i = 127 ∨ i = 129 ∨ (132 ≤ i ∧ i < 192) → ¬ Am i) (m2 : ¬ Fm 108 27) (m3 : ¬ Fm 108 29) (m4 : ¬ Fm 108 6) : wt_gw F k G m s' z' := by
  obtain ⟨a, b, c, d, e, p⟩ := h
  refine ⟨wt_gr_fr a f g c1 c2 c3 m1 m2 m3 m4, b, by rw [g.2 125 (m1 _ (by omega))]; exact c, d, e, fun i hi => ?_⟩
  rw [f.2 28 (c1 28 (by omega) (by omega)), g.2 (132 + (F + k)) (m1 _ (by omega))]
  exact p i hi
theorem wt_gr_lxc {F k G : Nat} : wt_lxc (wt_gr F k G) := fun s s' z z' h f g => wt_gr_fr h f g (fun i h1 h2 => by (try dsimp only); omega) (fun k => by (try dsimp only); omega) (by (try dsimp only); omega) (fun i _ h => h) (by (try dsimp only); omega) (by (try dsimp only); omega) (by (try dsimp only); omega)
theorem wt_gw_lxc {F k G m : Nat} : wt_lxc (wt_gw F k G m) := fun s s' z z' h f g => wt_gw_fr h f g (fun i h1 h2 => by (try dsimp only); omega) (fun k => by (try dsimp only); omega) (by (try dsimp only); omega) (fun i _ h => h) (by (try dsimp only); omega) (by (try dsimp only); omega) (by (try dsimp only); omega)
theorem wt_frt_fr {s s' : wt_St} {f p : Nat} {F : Nat → Nat → Prop} {A : Nat → Prop} (h : wt_frt s f p) (g : wt_fr F A s s') (h5 : ¬ F 108 5) (h6 : ¬ F 108 6) : wt_frt s' f p := ⟨by rw [g.1 108 5 h5]; exact h.1, by rw [g.1 108 6 h6]; exact h.2⟩
set_option maxHeartbeats 4000000 in
/-- the word is put down -/
theorem wr_wordEnd (n : Nat) (hn : 4294967297 < n) {β : Nat → Int32} {e p F k G m : Nat} {x xl v : Int32} {s z : wt_St} (hx : x.toInt = (k : Int)) (hk : k < 5) (hG : G < 20) (hl : xl.toInt = (m : Int)) (hv0 : 0 ≤ v.toInt) (hv3 : v.toInt ≤ 3) (tv : wt_tv β e p s) (rv : wt_rv β e p z) (h0 : wt_gf z 108 5 = 0) (gw : wt_gw F k G m s z) (hv : wt_ga z 127 (F + k) = v) : wt_HH (wp_tg_fillWord_B128 n 27 xl v s) (wp_md_reads_B213 n x z) (fun q y => (q.1 = 0 ∧ wt_ft q.2 y) ∨ (q.1 = 1 ∧ wt_ok (wt_gr F (k + 1) G) β e q.2 y ∧ k < 5 ∧ G < 20)) := by
  have k0 : (0 : Int32).toInt = 0 := by decide
  have k1 : (1 : Int32).toInt = 1 := by decide
  obtain ⟨⟨⟨a1, a2, a3⟩, ⟨b1, b2, b3⟩, c, d, ew, pl⟩, g1, g2, g3, g4, g5⟩ := gw
  have eW : Int32.toNatClampNeg (wt_gf s 27 6) = F + k := wt_tnN a1
  unfold wp_tg_fillWord_B128
  rw [if_neg (fun h => by have := wt_ceq h; rw [wt_lm1] at this; omega)]
  refine wt_HH_l (wh_put n (k := F + k) a1 (by rw [show wt_ln (27 + 2) = 60 from by decide]; exact g1)) (fun s1 ε1 => ?_)
  have f1 := wt_fr_sa ε1
  refine wt_HH_l (wh_put n (k := F + k) (by rw [f1.1 27 6 (fun h => h)]; exact a1) (by rw [show wt_ln (27 + 3) = 60 from by decide]; exact g1)) (fun s2 ε2 => ?_)
  have f2 := wt_fr_sa ε2
  refine wt_HH_l (wh_put n (k := F + k) (by rw [f2.1 27 6 (fun h => h), f1.1 27 6 (fun h => h)]; exact a1) (by rw [show wt_ln (27 + 4) = 60 from by decide]; exact g1)) (fun s3 ε3 => ?_)
  have f3 := wt_fr_sa ε3
  have e27 : wt_gf s2 27 7 = wt_gf s 27 7 := (f2.1 27 7 (fun h => h)).trans (f1.1 27 7 (fun h => h))
  have e36 : wt_gf s3 27 6 = wt_gf s 27 6 := (f3.1 27 6 (fun h => h)).trans ((f2.1 27 6 (fun h => h)).trans (f1.1 27 6 (fun h => h)))
  rw [e36]
  obtain ⟨s4, ε4⟩ : ∃ o : wt_St, o = wt_sf s3 27 6 ((wt_gf s 27 6) + (1 : Int32)) := ⟨_, rfl⟩
  rw [← ε4]
  have f4 := wt_fr_sf ε4
  have es1 := wt_i1 (c := wt_gf s 27 6) (by omega)
  have T : wt_fr (fun i k => i = 27 ∧ k = 6) (fun i => 28 < i ∧ i < 32) s s4 := (((wt_fr.rf.sa ε1 (by first | decide | ((try dsimp only); omega))).sa ε2 (by first | decide | ((try dsimp only); omega))).sa ε3 (by first | decide | ((try dsimp only); omega))).sf ε4 ⟨rfl, rfl⟩
  have v29 : wt_ga s4 29 (F + k) = xl := by rw [f4.2 29 (fun h => h), f3.2 29 (by decide), f2.2 29 (by decide)]; exact wt_v_sa ε1
  have v30 : wt_ga s4 30 (F + k) = v := by rw [f4.2 30 (fun h => h), f3.2 30 (by decide)]; exact wt_v_sa ε2
  have v31 : wt_ga s4 31 (F + k) = wt_gf s 27 7 := by rw [f4.2 31 (fun h => h), ← e27]; exact wt_v_sa ε3
  have o29 : ∀ w, w ≠ F + k → wt_ga s4 29 w = wt_ga s 29 w := fun w hw => by rw [f4.2 29 (fun h => h), f3.2 29 (by decide), f2.2 29 (by decide)]; exact wt_w_sa ε1 w hw
  have o30 : ∀ w, w ≠ F + k → wt_ga s4 30 w = wt_ga s 30 w := fun w hw => by rw [f4.2 30 (fun h => h), f3.2 30 (by decide), ← f1.2 30 (by decide)]; exact wt_w_sa ε2 w hw
  have o31 : ∀ w, w ≠ F + k → wt_ga s4 31 w = wt_ga s 31 w := fun w hw => by rw [f4.2 31 (fun h => h), ← f1.2 31 (by decide), ← f2.2 31 (by decide)]; exact wt_w_sa ε3 w hw
  -- the reference
  have B : ∀ zb : wt_St, wt_fr (fun i k => i = 108 ∧ k = 29) (fun _ => False) z zb → (wt_gf zb 108 29).toInt = ((G + 1 : Nat) : Int) → wt_HH (some ((1 : Int32), s4)) (wp_md_reads_B227 n zb) (fun q y => (q.1 = 0 ∧ wt_ft q.2 y) ∨ (q.1 = 1 ∧ wt_ok (wt_gr F (k + 1) G) β e q.2 y ∧ k < 5 ∧ G < 20)) := by
    intro zb fb hb
    unfold wp_md_reads_B227
    have w27 : wt_gf zb 108 27 = wt_gf z 108 27 := fb.1 108 27 (by (try dsimp only); omega)
    refine wt_HH_gr (fun _ => ?_)
    have et : Int32.toNatClampNeg (wt_gf zb 108 27) = F + k := wt_tnN (by rw [w27]; exact a2)
    rw [et]
    obtain ⟨y1, δ1⟩ : ∃ o : wt_St, o = wt_sa zb 129 (F + k) ((wt_gf zb 108 29) - (1 : Int32)) := ⟨_, rfl⟩
    rw [← δ1]
    have p1 := wt_fr_sa δ1
    have w271 : wt_gf y1 108 27 = wt_gf z 108 27 := (p1.1 108 27 (fun h => h)).trans w27
    rw [w271]
    obtain ⟨y2, δ2⟩ : ∃ o : wt_St, o = wt_sf y1 108 27 ((wt_gf z 108 27) + (1 : Int32)) := ⟨_, rfl⟩
    rw [← δ2]
    have p2 := wt_fr_sf δ2
    have U : wt_fr (fun i k => i = 108 ∧ (k = 29 ∨ k = 27)) (fun i => i = 129) z y2 := ((wt_frw fb (fun i k h => by (try dsimp only at h); omega) (fun i h => h.elim)).sa δ1 (by decide)).sf δ2 (by first | decide | ((try dsimp only); omega))
    have eg := wt_subE (x := wt_gf zb 108 29) (y := (1 : Int32)) (by omega) (by omega)
    have ez1 := wt_i1 (c := wt_gf z 108 27) (by omega)
    have v129 : (wt_ga y2 129 (F + k)) = (wt_gf zb 108 29) - (1 : Int32) := by rw [p2.2 129 (fun h => h)]; exact wt_v_sa δ1
    have o129 : ∀ w, w ≠ F + k → wt_ga y2 129 w = wt_ga z 129 w := fun w hw => by rw [p2.2 129 (fun h => h), ← fb.2 129 (fun h => h)]; exact wt_w_sa δ1 w hw
    refine wt_HH_some (Or.inr ⟨rfl, ⟨p, wt_tv_fr tv T (by decide) (by decide) (by decide), wt_rv_fr rv U (by decide) (by decide) (by decide), (U.1 108 5 (by decide)).trans h0, ⟨⟨?_, ?_, by omega⟩, ⟨?_, ?_, by omega⟩, ?_, ?_, ?_, ?_⟩⟩, hk, hG⟩)
    · rw [wt_v_sf ε4]; omega
    · rw [wt_v_sf δ2]; omega
    · rw [T.1 27 7 (by decide)]; exact b1
    · rw [p2.1 108 29 (by decide), p1.1 108 29 (fun h => h)]; omega
    · intro w hw
      show wt_ga s4 29 w = wt_ga y2 125 w ∧ wt_ga s4 30 w = wt_ga y2 127 w ∧ wt_ga s4 31 w = wt_ga y2 129 w ∧ (1 ≤ (wt_ga s4 29 w).toInt ∧ (wt_ga s4 29 w).toInt ≤ 9) ∧ (0 ≤ (wt_ga s4 30 w).toInt ∧ (wt_ga s4 30 w).toInt ≤ 3) ∧ ∀ i : Nat, (i : Int) < (wt_ga s4 29 w).toInt → wt_ga s4 28 (9 * w + i) = wt_ga y2 (132 + w) i ∧ 0 ≤ (wt_ga s4 28 (9 * w + i)).toInt ∧ (wt_ga s4 28 (9 * w + i)).toInt ≤ 25
      by_cases hc : w = F + k
      · rw [hc, v29, v30, v31, v129, U.2 125 (by decide), U.2 127 (by decide), hv]
        refine ⟨wt_eqI (by omega), rfl, wt_eqI (by omega), by omega, by omega, fun i hi => ?_⟩
        rw [T.2 28 (by decide), U.2 (132 + (F + k)) (by (try dsimp only); omega)]
        exact g5 i (by omega)
      · rw [o29 w hc, o30 w hc, o31 w hc, o129 w hc, U.2 125 (by decide), U.2 127 (by decide)]
        obtain ⟨r1, r2, r3, r4, r5, r6⟩ := c w (by omega)
        refine ⟨r1, r2, r3, r4, r5, fun i hi => ?_⟩
        rw [T.2 28 (by decide), U.2 (132 + w) (by (try dsimp only); omega)]
        exact r6 i hi
    · exact wt_gs_eq d (fun w hw => o31 w (by omega)) (fun i hi g _ => T.2 i (by (try dsimp only); omega) g)
    · intro w h1 h2
      by_cases hc : w = F + k
      · rw [hc, v31]; exact b1
      · rw [o31 w hc]; exact ew w h1 (by omega)
    · rw [T.1 1 7 (by decide), U.1 108 6 (by decide)]; exact pl
  unfold wp_md_reads_B213
  refine wt_HH_ir (fun h => ?_) (fun h => ?_)
  · have h' := wt_ceq h
    have e1 := wt_i1 (c := wt_gf z 108 29) (by omega)
    refine B _ (wt_frw (wt_fr_sf rfl) (fun i k h => h) (fun i h => h)) ?_
    rw [wt_v_sf rfl]
    omega
  · have h' := wt_nceq h
    exact B z wt_fr.rf (by omega)
end WTQ3
-- 90c.word.lean.txt
section WTQ4
theorem wt_fst_eq {N : Nat} {P : Nat → Prop} {x : Int32} (h : wt_fst N P x) : -1 ≤ x.toInt ∧ x.toInt < (N : Int) ∨ x = -1 := by
  rcases h with ⟨w, a1, a2, -⟩ | ⟨a1, -⟩
  · exact Or.inl (by omega)
  · exact Or.inr a1
set_option maxRecDepth 100000 in
set_option maxHeartbeats 8000000 in
/-- a word of a tongue is read alike on both sides -/
theorem wr_fillWord (n : Nat) (hn : 4294967297 < n) {β : Nat → Int32} {e p F k G : Nat} {x : Int32} {s z : wt_St} (hx : x.toInt = (k : Int)) (hk : k ≤ 5) (hg : 1 ≤ k → G < 20) (tv : wt_tv β e p s) (rv : wt_rv β e p z) (h0 : wt_gf z 108 5 = 0) (gr : wt_gr F k G s z) : wt_HH (wp_tg_fillWord n 27 x s) (wp_md_reads n x z) (fun q y => (q.1 = 0 ∧ wt_ft q.2 y) ∨ (q.1 = 1 ∧ wt_ok (wt_gr F (k + 1) G) β e q.2 y ∧ k < 5 ∧ G < 20)) := by
  have k0 : (0 : Int32).toInt = 0 := by decide
  have k1 : (1 : Int32).toInt = 1 := by decide
  have k3 : (3 : Int32).toInt = 3 := by decide
  have k5 : (5 : Int32).toInt = 5 := by decide
  have k9 : (9 : Int32).toInt = 9 := by decide
  have k20 : (20 : Int32).toInt = 20 := by decide
  have k60 : (60 : Int32).toInt = 60 := by decide
  have k97 : (97 : Int32).toInt = 97 := by decide
  have l28 : wt_ln (27 + 1) = 540 := by decide
  have l29 : wt_ln (27 + 2) = 60 := by decide
  unfold wp_tg_fillWord wp_md_reads
  refine wt_HH_l (wh_takeWord n hn tv) (fun q1 h1 => ?_)
  obtain ⟨j, j2, s1, s2, tv1, st1, hc⟩ := h1
  refine wt_HH_r (wh_lettersHere n rv) (fun y1 g1 => ?_)
  obtain ⟨i, i2, u1, u2, rv1, ey1, f1⟩ := g1
  have ei : i = j := wt_run_u u1 s1
  rw [ei] at u2 rv1 ey1
  have ei2 : i2 = j2 := wt_run_u u2 s2
  rw [ei2] at ey1
  have h01 : wt_gf y1.2 108 5 = 0 := (f1.1 108 5 (by (try dsimp only); omega)).trans h0
  have tb := tv1.2.2.2
  have t3 := tv1.2.2.1
  have r3 := rv1.2.2.1
  have s21 := s2.1
  have WR : ∀ (f : Nat) (a : Int32) (q z1 : wt_St), a.toInt = (f : Int) → 0 < f → wt_flt q f j → wt_gf z1 108 5 = 0 → wt_HH (some ((0 : Int32), q)) ((wp_md_wrong n a (wt_gf y1.2 108 4) z1).bind fun q4 => wp_md_reads_B92 n x y1.1 q4) (fun q y => (q.1 = 0 ∧ wt_ft q.2 y) ∨ (q.1 = 1 ∧ wt_ok (wt_gr F (k + 1) G) β e q.2 y ∧ k < 5 ∧ G < 20)) := by
    intro f a q z1 ha hf hq hz
    refine wt_HH_r (wh_wrong n hz ha r3) (fun z2 h2 => ?_)
    unfold wp_md_reads_B92
    rw [if_neg (wt_frt_nz h2.1 hf)]
    exact wt_HH_some (Or.inl ⟨rfl, f, j, hf, hq, h2.1⟩)
  rcases hc with ⟨e2, q0, fl, -⟩ | ⟨lt, q0, fr, sp⟩
  · rw [if_pos q0, if_pos (wt_eqI (a := y1.1) (b := (0 : Int32)) (by omega))]
    exact WR 1 _ _ _ (by decide) (by omega) fl h01
  · rw [if_neg (by rw [q0]; decide), if_neg (fun h => by have := wt_ceq h; omega)]
    unfold wp_tp_wordLength
    refine wt_HH_l (wt_H_some (Q := fun q => q = ((wt_gf q1.2 1 4) - (wt_gf q1.2 1 5), q1.2)) rfl) (fun q3 h3 => ?_)
    subst h3
    dsimp only
    have el := wt_subE (x := wt_gf q1.2 1 4) (y := wt_gf q1.2 1 5) (by omega) (by omega)
    have exy : (wt_gf q1.2 1 4) - (wt_gf q1.2 1 5) = y1.1 := wt_eqI (by omega)
    rw [exy]
    have gr1 : wt_gr F k G q1.2 y1.2 := wt_gr_fr gr fr f1 (fun i h1 h2 => by (try dsimp only); omega) (fun k => by (try dsimp only); omega) (by (try dsimp only); omega) (fun i _ h => h) (by (try dsimp only); omega) (by (try dsimp only); omega) (by (try dsimp only); omega)
    have E2 : wt_HH (wp_tg_fillWord_B33 n 27 q1.2) (wp_md_reads_B50 n x y1.1 (wt_gf y1.2 108 4) y1.2) (fun q y => (q.1 = 0 ∧ wt_ft q.2 y) ∨ (q.1 = 1 ∧ wt_ok (wt_gr F (k + 1) G) β e q.2 y ∧ k < 5 ∧ G < 20)) := by
      unfold wp_tg_fillWord_B33 wp_md_reads_B50
      refine wt_HH_l (wh_fail n (x := (2 : Int32)) (f := 2) (by decide) st1) (fun q5 h5 => ?_)
      rw [h5.1]
      exact WR 2 _ _ _ (by decide) (by omega) h5.2.1 h01
    have E3 : wt_HH (wp_tg_fillWord_B62 n 27 q1.2) (wp_md_reads_B86 n x y1.1 (wt_gf y1.2 108 4) y1.2) (fun q y => (q.1 = 0 ∧ wt_ft q.2 y) ∨ (q.1 = 1 ∧ wt_ok (wt_gr F (k + 1) G) β e q.2 y ∧ k < 5 ∧ G < 20)) := by
      unfold wp_tg_fillWord_B62 wp_md_reads_B86
      refine wt_HH_l (wh_fail n (x := (3 : Int32)) (f := 3) (by decide) st1) (fun q5 h5 => ?_)
      rw [h5.1]
      exact WR 3 _ _ _ (by decide) (by omega) h5.2.1 h01
    by_cases h9 : (9 : Int32) < y1.1
    · rw [if_pos h9, if_pos h9]
      exact E2
    · rw [if_neg h9, if_neg h9]
      have l9 := wt_ncl h9
      obtain ⟨⟨a1, a2, a3⟩, ⟨b1, b2, b3⟩, c, d, ew, pl⟩ := gr1
      have em : y1.1.toInt = ((j2 - j : Nat) : Int) := by omega
      refine wt_HH_l (wh_find n hn (N := F + k) (m := j2 - j) l28 l29 wt_ln3 a1 a3 em (by omega)) (fun q6 h6 => ?_)
      obtain ⟨e6, w6⟩ := h6
      rw [e6]
      refine wt_HH_r (wh_wordOf_131 n (N := F + k) (m := j2 - j) rv1 em (by omega) (by omega) a2 a3) (fun y19 h19 => ?_)
      obtain ⟨e19, w19⟩ := h19
      rw [e19]
      have SP : ∀ i, i < j2 - j → wt_ga q1.2 3 i = β (j + i) - (97 : Int32) := fun i hi => by
        have hb := wt_sm_b s2 (i := j + i) (by omega) (by omega)
        have es := wt_subE (x := β (j + i)) (y := (97 : Int32)) (by omega) (by omega)
        have := sp i (by omega) (by omega)
        exact wt_eqI (by omega)
      have same : q6.1 = y19.1 := wt_fst_u w6 w19 (fun w hw => by
        obtain ⟨c1, -, -, -, -, c6⟩ := c w hw
        constructor
        · rintro ⟨x1, x2⟩
          have x1' : wt_ga q1.2 (27 + 2) w = y1.1 := x1
          refine ⟨c1.symm.trans x1', fun i hi => ?_⟩
          rw [← (c6 i (by rw [x1', em]; omega)).1, x2 i hi]
          exact SP i hi
        · rintro ⟨x1, x2⟩
          have x1' : wt_ga q1.2 (27 + 2) w = y1.1 := c1.trans x1
          refine ⟨x1', fun i hi => ?_⟩
          rw [SP i hi, ← x2 i hi]
          exact (c6 i (by rw [x1', em]; omega)).1)
      rw [same]
      by_cases hm1 : y19.1 = (-1 : Int32)
      · rw [if_pos hm1, if_pos hm1]
        by_cases bad : k = 5 ∨ F + k = 60 ∨ (k = 0 ∧ G = 20)
        · have X : wt_HH (wp_tg_fillWord_B62 n 27 q1.2) (if x = (5 : Int32) then wp_md_reads_B86 n x y1.1 (wt_gf y1.2 108 4) y1.2 else if (wt_gf y1.2 108 27) = (60 : Int32) then wp_md_reads_B86 n x y1.1 (wt_gf y1.2 108 4) y1.2 else if x = 0 then if (wt_gf y1.2 108 29) = (20 : Int32) then wp_md_reads_B86 n x y1.1 (wt_gf y1.2 108 4) y1.2 else wp_md_reads_B92 n x y1.1 y1.2 else wp_md_reads_B92 n x y1.1 y1.2) (fun q y => (q.1 = 0 ∧ wt_ft q.2 y) ∨ (q.1 = 1 ∧ wt_ok (wt_gr F (k + 1) G) β e q.2 y ∧ k < 5 ∧ G < 20)) := by
            refine wt_HH_ir (fun _ => E3) (fun d1 => wt_HH_ir (fun _ => E3) (fun d2 => ?_))
            have d1' := wt_nceq d1
            have d2' := wt_nceq d2
            refine wt_HH_ir (fun d3 => wt_HH_ir (fun _ => E3) (fun d4 => ?_)) (fun d3 => ?_)
            · have d3' := wt_ceq d3
              have d4' := wt_nceq d4
              omega
            · have d3' := wt_nceq d3
              omega
          refine wt_HH_il (fun _ => X) (fun c1 => wt_HH_il (fun _ => X) (fun c2 => wt_HH_il (fun c3 => ?_) (fun _ => X)))
          have c1' := wt_ncle c1
          have c2' := wt_ncle c2
          have c3' := wt_clt c3
          omega
        · have hG : G < 20 := by omega
          rw [if_neg (fun h => by have := wt_cle h; omega), if_neg (fun h => by have := wt_cle h; omega), if_pos (Int32.lt_iff_toInt_lt.mpr (by omega)), if_neg (fun h => by have := wt_ceq h; omega), if_neg (fun h => by have := wt_ceq h; omega)]
          have M : wt_HH (wt_it (wp_tg_fillWord_B71 n 27 y1.1) n ((0 : Int32), q1.2)) (wp_md_reads_B92 n x y1.1 y1.2) (fun q y => (q.1 = 0 ∧ wt_ft q.2 y) ∨ (q.1 = 1 ∧ wt_ok (wt_gr F (k + 1) G) β e q.2 y ∧ k < 5 ∧ G < 20)) := by
            unfold wp_md_reads_B92
            rw [if_pos h01]
            have et2 : Int32.toNatClampNeg (wt_gf y1.2 108 27) = F + k := wt_tnN a2
            refine wt_HH_gr (fun _ => ?_)
            rw [et2]
            obtain ⟨z1, ε1⟩ : ∃ o : wt_St, o = wt_sa y1.2 125 (F + k) y1.1 := ⟨_, rfl⟩
            rw [← ε1]
            have p1 := wt_fr_sa ε1
            -- the letters, on the one side
            refine wt_HH_itl (fun t : Int32 × wt_St => 0 ≤ t.1.toInt ∧ t.1.toInt ≤ ((j2 - j : Nat) : Int) ∧ wt_fr (fun _ _ => False) (fun i => i = 28) q1.2 t.2 ∧ (∀ i : Nat, (i : Int) < t.1.toInt → wt_ga t.2 28 (9 * (F + k) + i) = wt_ga q1.2 3 i) ∧ ∀ i, i < 9 * (F + k) → wt_ga t.2 28 i = wt_ga q1.2 28 i) (fun K t I hK => ?_) n _ ⟨by show 0 ≤ ((0 : Int32)).toInt; omega, by show ((0 : Int32)).toInt ≤ _; omega, wt_fr.rf, fun i hi => absurd (show (i : Int) < ((0 : Int32)).toInt from hi) (by omega), fun i _ => rfl⟩
            obtain ⟨I0, I1, ft, I2, I3⟩ := I
            have et := wt_tnI I0
            unfold wp_tg_fillWord_B71
            refine wt_HH_il (fun cc => ?_) (fun cc => ?_)
            · have cc' := wt_cle cc
              have tvt : wt_tv β e j2 t.2 := wt_tv_fr tv1 ft (by decide) (fun h => h) (fun h => h)
              -- the letters, on the other
              refine wt_HH_itr (fun u : Int32 × wt_St => 0 ≤ u.1.toInt ∧ u.1.toInt ≤ ((j2 - j : Nat) : Int) ∧ wt_fr (fun _ _ => False) (fun i => i = 132 + (F + k)) z1 u.2 ∧ ∀ i : Nat, (i : Int) < u.1.toInt → wt_ga u.2 (132 + (F + k)) i = β (j + i) - (97 : Int32)) (fun K2 u J hK2 => ?_) n _ ⟨by show 0 ≤ ((0 : Int32)).toInt; omega, by show ((0 : Int32)).toInt ≤ _; omega, wt_fr.rf, fun i hi => absurd (show (i : Int) < ((0 : Int32)).toInt from hi) (by omega)⟩
              obtain ⟨J0, J1, fu, J2⟩ := J
              have eu := wt_tnI J0
              have rvu : wt_rv β e j u.2 := wt_rv_fr (wt_rv_fr rv1 p1 (by decide) (fun h => h) (fun h => h)) fu (by (try dsimp only); omega) (fun h => h) (fun h => h)
              have g27 : wt_gf u.2 108 27 = wt_gf y1.2 108 27 := (fu.1 108 27 (fun h => h)).trans (p1.1 108 27 (fun h => h))
              unfold wp_md_reads_B113
              refine wt_HH_ir (fun dd => ?_) (fun dd => ?_)
              · have dd' := wt_cle dd
                have ea := wt_addE (x := wt_gf u.2 108 4) (y := y1.1) (by rw [rvu.2.2.1]; omega) (by rw [rvu.2.2.1]; omega)
                obtain ⟨z2, ε2⟩ : ∃ o : wt_St, o = wt_sf u.2 108 4 ((wt_gf u.2 108 4) + y1.1) := ⟨_, rfl⟩
                rw [← ε2]
                have p2 := wt_fr_sf ε2
                have g272 : wt_gf z2 108 27 = wt_gf y1.2 108 27 := (p2.1 108 27 (by (try dsimp only); omega)).trans g27
                refine wt_HH_gr (fun _ => ?_)
                rw [g272, et2]
                obtain ⟨z3, ε3⟩ : ∃ o : wt_St, o = wt_sa z2 127 (F + k) (0 : Int32) := ⟨_, rfl⟩
                rw [← ε3]
                have p3 := wt_fr_sa ε3
                have rv2 : wt_rv β e j2 z2 := wt_rv_adv rvu ε2 (by rw [ea, rvu.2.2.1]; omega) (by omega)
                have rv3 := wt_rv_fr rv2 p3 (by decide) (fun h => h) (fun h => h)
                have FR : wt_fr (fun i k => i = 108 ∧ k = 4) (fun i => i = 125 ∨ i = 127 ∨ i = 132 + (F + k)) y1.2 z3 := (((wt_fr.rf.sa ε1 (by first | decide | ((try dsimp only); omega))).tr (wt_frw fu (fun i k h => h.elim) (fun i h => by (try dsimp only at h); omega)) (fun i k h => h) (fun i h => h)).sf ε2 ⟨rfl, rfl⟩).sa ε3 (by first | decide | ((try dsimp only); omega))
                have h03 : wt_gf z3 108 5 = 0 := (FR.1 108 5 (by (try dsimp only); omega)).trans h01
                have o125 : ∀ w, w ≠ F + k → wt_ga z3 125 w = wt_ga y1.2 125 w := fun w hw => by rw [p3.2 125 (by decide), p2.2 125 (fun h => h), fu.2 125 (by (try dsimp only); omega)]; exact wt_w_sa ε1 w hw
                have v125 : wt_ga z3 125 (F + k) = y1.1 := by rw [p3.2 125 (by decide), p2.2 125 (fun h => h), fu.2 125 (by (try dsimp only); omega)]; exact wt_v_sa ε1
                have o127 : ∀ w, w ≠ F + k → wt_ga z3 127 w = wt_ga y1.2 127 w := fun w hw => by
                  rw [wt_w_sa ε3 w hw, p2.2 127 (fun h => h), fu.2 127 (by (try dsimp only); omega), p1.2 127 (by decide)]
                have v127 : wt_ga z3 127 (F + k) = 0 := wt_v_sa ε3
                have gw : wt_gw F k G (j2 - j) t.2 z3 := by
                  refine ⟨⟨⟨?_, ?_, a3⟩, ⟨?_, ?_, b3⟩, ?_, wt_gs_fr d ft (fun i h1 h2 => by (try dsimp only); omega), fun w h1 h2 => ?_, ?_⟩, by omega, by rw [v125]; exact em, by omega, by omega, fun i hi => ?_⟩
                  · rw [ft.1 27 6 (fun h => h)]; exact a1
                  · rw [FR.1 108 27 (by decide)]; exact a2
                  · rw [ft.1 27 7 (fun h => h)]; exact b1
                  · rw [FR.1 108 29 (by decide)]; exact b2
                  · refine wt_tt_eq c (fun i hi w _ => ft.2 i (by (try dsimp only); omega) w) (fun i hi => I3 i hi) (fun i hi w hw => ?_) (fun w hw i => FR.2 (132 + w) (by (try dsimp only); omega) i)
                    rcases hi with hi | hi | hi
                    · rw [hi]; exact o125 w (by omega)
                    · rw [hi]; exact o127 w (by omega)
                    · rw [hi]; exact FR.2 129 (by (try dsimp only); omega) w
                  · rw [ft.2 31 (by decide)]; exact ew w h1 h2
                  · rw [ft.1 1 7 (fun h => h), FR.1 108 6 (by decide)]; exact pl
                  · have hb := wt_sm_b s2 (i := j + i) (by omega) (by omega)
                    have es := wt_subE (x := β (j + i)) (y := (97 : Int32)) (by omega) (by omega)
                    have i2' := I2 i (by omega)
                    have j2' := J2 i (by omega)
                    have e13 : wt_ga z3 (132 + (F + k)) i = β (j + i) - (97 : Int32) := by rw [p3.2 (132 + (F + k)) (by (try dsimp only); omega), p2.2 _ (fun h => h)]; exact j2'
                    rw [i2', e13, SP i hi]
                    exact ⟨rfl, by omega, by omega⟩
                -- the mark
                refine wt_HH_l (wh_takeSign n hn (47 : Int32) tvt) (fun q13 h13 => ?_)
                obtain ⟨j3, r3', st3, fr3, hc3⟩ := h13
                refine wt_HH_r (wh_blanks n rv3) (fun y9 h9' => ?_)
                obtain ⟨j3', r3'', rv9, fr9⟩ := h9'
                have ej3 : j3' = j3 := wt_run_u r3'' r3'
                rw [ej3] at rv9
                have h09 : wt_gf y9 108 5 = 0 := (fr9.1 108 5 (by (try dsimp only); omega)).trans h03
                have gw9 : wt_gw F k G (j2 - j) q13.2 y9 := wt_gw_lxc _ _ _ _ gw (wt_frw fr3 (fun i k h => h) (fun i h => h.elim)) fr9
                refine wt_HH_r (wh_byteAt n rv9 (j := j3) rv9.2.2.1) (fun y10 h10 => ?_)
                rcases hc3 with ⟨zz1, lt3, eq3, tv3⟩ | ⟨zz1, ne3, tv3⟩
                · rw [if_neg (by rw [zz1]; decide)]
                  rcases h10 with ⟨ge, -⟩ | ⟨-, hq⟩
                  · omega
                  · subst hq
                    dsimp only
                    rw [if_pos eq3]
                    have e4 := wt_i1 (c := wt_gf y9 108 4) (by rw [rv9.2.2.1]; omega)
                    obtain ⟨z11, ε11⟩ : ∃ o : wt_St, o = wt_sf y9 108 4 ((wt_gf y9 108 4) + (1 : Int32)) := ⟨_, rfl⟩
                    rw [← ε11]
                    have p11 := wt_fr_sf ε11
                    have rv11 : wt_rv β e (j3 + 1) z11 := wt_rv_adv rv9 ε11 (by rw [e4, rv9.2.2.1]; omega) (by omega)
                    have gw11 : wt_gw F k G (j2 - j) q13.2 z11 := wt_gw_lxc _ _ _ _ gw9 wt_fr.rf p11
                    have e2711 : Int32.toNatClampNeg (wt_gf z11 108 27) = F + k := wt_tnN gw11.1.1.2.1
                    refine wt_HH_b (wr_number n hn (R := wt_gw F k G (j2 - j)) wt_gw_lxc ⟨j3 + 1, tv3, rv11, (p11.1 108 5 (by (try dsimp only); omega)).trans h09, gw11⟩ (by omega) (by omega)) (fun a b hab => ?_)
                    refine wt_HH_gr (fun _ => ?_)
                    rw [e2711]
                    obtain ⟨z12, ε12⟩ : ∃ o : wt_St, o = wt_sa b.2 127 (F + k) b.1 := ⟨_, rfl⟩
                    rw [← ε12]
                    have p12 := wt_fr_sa ε12
                    rcases hab with ⟨m1, f, pp, hf, mfl, mfr⟩ | ⟨m1, m2, m3, p4, tv4, rv4, h04, gw4⟩
                    · unfold wp_tg_fillWord_B128
                      rw [if_pos m1]
                      have frz := wt_frt_fr mfr p12 (fun h => h) (fun h => h)
                      have B27 : ∀ zb : wt_St, wt_frt zb f pp → wt_HH (some ((0 : Int32), a.2)) (wp_md_reads_B227 n zb) (fun q y => (q.1 = 0 ∧ wt_ft q.2 y) ∨ (q.1 = 1 ∧ wt_ok (wt_gr F (k + 1) G) β e q.2 y ∧ k < 5 ∧ G < 20)) := by
                        intro zb hzb
                        unfold wp_md_reads_B227
                        refine wt_HH_gr (fun _ => ?_)
                        exact wt_HH_some (Or.inl ⟨rfl, f, pp, hf, mfl, wt_frt_fr (wt_frt_fr hzb (wt_fr_sa rfl) (fun h => h) (fun h => h)) (wt_fr_sf rfl) (by (try dsimp only); omega) (by (try dsimp only); omega)⟩)
                      unfold wp_md_reads_B213
                      exact wt_HH_ir (fun _ => B27 _ (wt_frt_fr frz (wt_fr_sf rfl) (by (try dsimp only); omega) (by (try dsimp only); omega))) (fun _ => B27 _ frz)
                    · rw [m3] at ε12
                      obtain ⟨g4r, g4a, g4b, g4c, g4d, g4e⟩ := gw4
                      have gr12 : wt_gr F k G a.2 z12 := by
                        obtain ⟨A1, A2, A3, A4, A5, A6⟩ := g4r
                        refine ⟨by rw [p12.1 108 27 (fun h => h)]; exact A1, by rw [p12.1 108 29 (fun h => h)]; exact A2, wt_tt_eq A3 (fun i _ w _ => rfl) (fun i _ => rfl) (fun i hi w hw => ?_) (fun w hw i => p12.2 (132 + w) (by (try dsimp only); omega) i), A4, A5, by rw [p12.1 108 6 (fun h => h)]; exact A6⟩
                        rcases hi with hi | hi | hi
                        · rw [hi]; exact p12.2 125 (by decide) w
                        · rw [hi]; exact wt_w_sa ε12 w (by omega)
                        · rw [hi]; exact p12.2 129 (by decide) w
                      exact wr_wordEnd n hn (m := j2 - j) (p := p4) hx (by omega) hG em (by omega) (by omega) tv4 (wt_rv_fr rv4 p12 (by decide) (fun h => h) (fun h => h)) ((p12.1 108 5 (fun h => h)).trans h04) ⟨gr12, g4a, by rw [p12.2 125 (by decide)]; exact g4b, g4c, g4d, fun i hi => by rw [p12.2 (132 + (F + k)) (by (try dsimp only); omega)]; exact g4e i hi⟩ (wt_v_sa ε12)
                · rw [if_pos zz1]
                  have NS : y10.2 = y9 ∧ ¬ y10.1 = (47 : Int32) := by
                    rcases h10 with ⟨ge, hq⟩ | ⟨hlt, hq⟩
                    · rw [hq]; exact ⟨rfl, fun h => absurd (show (-1 : Int32) = _ from h) (by decide)⟩
                    · rw [hq]; exact ⟨rfl, fun h => ne3 ⟨hlt, h⟩⟩
                  rw [if_neg NS.2, NS.1]
                  refine wr_wordEnd n hn (m := j2 - j) (p := j3) hx (by omega) hG em (by omega) (by omega) tv3 rv9 h09 gw9 ?_
                  rw [fr9.2 127 (fun h => h)]
                  exact v127
              · have dd' := wt_ncle dd
                refine wt_HH_gr (fun _ => ?_)
                have ek := wt_addE (x := wt_gf u.2 108 4) (y := u.1) (by rw [rvu.2.2.1]; omega) (by rw [rvu.2.2.1]; omega)
                have eu1 := wt_i1 (c := u.1) (by omega)
                refine wt_HH_r (wh_byteAt n rvu (j := j + Int32.toNatClampNeg u.1) (by rw [ek, rvu.2.2.1]; omega)) (fun y17 h17 => ?_)
                rcases h17 with ⟨ge, -⟩ | ⟨-, hq⟩
                · omega
                · subst hq
                  dsimp only
                  refine wt_HH_gr (fun _ => ?_)
                  rw [g27, et2]
                  obtain ⟨u2', ε⟩ : ∃ o : wt_St, o = wt_sa u.2 (132 + (F + k)) (Int32.toNatClampNeg u.1) (β (j + Int32.toNatClampNeg u.1) - (97 : Int32)) := ⟨_, rfl⟩
                  rw [← ε]
                  refine hK2 _ ⟨by show 0 ≤ (u.1 + (1 : Int32)).toInt; omega, by show (u.1 + (1 : Int32)).toInt ≤ _; omega, fu.sa ε rfl, fun i hi => ?_⟩
                  have hi' : (i : Int) < (u.1 + (1 : Int32)).toInt := hi
                  show wt_ga u2' (132 + (F + k)) i = _
                  by_cases hc' : i = Int32.toNatClampNeg u.1
                  · rw [hc', wt_v_sa ε]
                  · rw [wt_w_sa ε i hc']; exact J2 i (by omega)
            · have cc' := wt_ncle cc
              have et1 := wt_i1 (c := t.1) (by omega)
              have c276 : wt_gf t.2 27 6 = wt_gf q1.2 27 6 := ft.1 27 6 (fun h => h)
              refine wt_HH_l (wh_look n hn (k := Int32.toNatClampNeg t.1) (by omega) (by rw [wt_ln3]; omega)) (fun q20 h20 => ?_)
              subst h20
              dsimp only
              rw [c276]
              have em9 := wt_mulR (x := wt_gf q1.2 27 6) k9 (by omega) (by omega)
              have ea9 := wt_addE (x := (wt_gf q1.2 27 6) * (9 : Int32)) (y := t.1) (by omega) (by omega)
              refine wt_HH_l (wh_put n (k := 9 * (F + k) + Int32.toNatClampNeg t.1) (by omega) (by rw [l28]; omega)) (fun q21 ε => ?_)
              have ε' : q21 = wt_sa t.2 28 (9 * (F + k) + Int32.toNatClampNeg t.1) (wt_ga t.2 3 (Int32.toNatClampNeg t.1)) := ε
              refine hK _ ⟨by show 0 ≤ (t.1 + (1 : Int32)).toInt; omega, by show (t.1 + (1 : Int32)).toInt ≤ _; omega, ft.sa ε' rfl, fun i hi => ?_, fun i hi => ?_⟩
              · have hi' : (i : Int) < (t.1 + (1 : Int32)).toInt := hi
                show wt_ga q21 28 (9 * (F + k) + i) = wt_ga q1.2 3 i
                by_cases hc' : i = Int32.toNatClampNeg t.1
                · rw [hc', wt_v_sa ε']
                  exact ft.2 3 (by decide) _
                · rw [wt_w_sa ε' _ (by omega)]; exact I2 i (by omega)
              · show wt_ga q21 28 i = wt_ga q1.2 28 i
                rw [wt_w_sa ε' _ (by omega)]
                exact I3 i hi
          refine wt_HH_ir (fun d3 => ?_) (fun _ => M)
          have d3' := wt_ceq d3
          rw [if_neg (fun h => by have := wt_ceq h; omega)]
          exact M
      · rw [if_neg hm1, if_neg hm1]
        exact E2
end WTQ4
-- 90d.group.lean.txt
section WTQ5
/-! a group, and all groups, on both sides -/
noncomputable def wt_gL (n : Nat) (K : Int32 × wt_St → Option (Int32 × wt_St)) (s : Int32 × wt_St) : Option (Int32 × wt_St) :=
  if (wt_gf s.2 108 5) = 0 then
    (wp_md_byteAt n (wt_gf s.2 108 4) s.2).bind fun q30 =>
    if q30.1 = (44 : Int32) then
      (wp_md_reads n s.1 (wt_sf q30.2 108 4 ((wt_gf q30.2 108 4) + (1 : Int32)))).bind fun q32 =>
      (wp_md_blanks n q32).bind fun q33 =>
      K ((s.1 + (1 : Int32)), q33)
    else some (s.1, q30.2)
  else some s
theorem wt_gL_fac (n m : Nat) (K47 : wt_St → Option (Int32 × wt_St)) (s : Int32 × wt_St) : wt_it (wp_md_tongue_B76 n K47) m s = (wt_it (wt_gL n) m s).bind (fun a => wp_md_tongue_B121 n K47 a.2) := by
  refine wt_it_fac (fun K s => ?_) m s
  unfold wp_md_tongue_B76 wt_gL
  by_cases h1 : (wt_gf s.2 108 5) = 0
  · rw [if_pos h1, if_pos h1]
    cases wp_md_byteAt n (wt_gf s.2 108 4) s.2 with
    | none => rfl
    | some a =>
      show (if a.1 = (44 : Int32) then _ else _) = (if a.1 = (44 : Int32) then _ else _ : Option (Int32 × wt_St)).bind _
      by_cases h2 : a.1 = (44 : Int32)
      · rw [if_pos h2, if_pos h2]
        cases wp_md_reads n s.1 (wt_sf a.2 108 4 ((wt_gf a.2 108 4) + (1 : Int32))) with
        | none => rfl
        | some b =>
          show ((wp_md_blanks n b).bind fun q33 => (K ((s.1 + (1 : Int32)), q33)).bind _) = ((wp_md_blanks n b).bind fun q33 => K ((s.1 + (1 : Int32)), q33)).bind _
          cases wp_md_blanks n b with
          | none => rfl
          | some c => rfl
      · rw [if_neg h2, if_neg h2]
        rfl
  · rw [if_neg h1, if_neg h1]
    rfl
noncomputable def wt_gB (n m : Nat) (x : Int32) (z : wt_St) : Option wt_St :=
  (wp_md_reads n x z).bind fun q25 => (wp_md_blanks n q25).bind fun q26 => (wt_it (wt_gL n) m ((x + (1 : Int32)), q26)).bind fun a => wp_md_closes n (59 : Int32) a.2
noncomputable def wt_tL (n : Nat) (K : wt_St → Option wt_St) (s : wt_St) : Option wt_St :=
  if (wt_gf s 108 5) = 0 then
    if (wt_gf s 108 2) ≤ (wt_gf s 108 4) then some s
    else (wt_gB n n (0 : Int32) s).bind fun q28 => (wp_md_blanks n q28).bind fun q29 => K q29
  else some s
theorem wt_tL_fac (n m : Nat) (s : wt_St) : wt_it (wp_md_tongue_B47 n) m s = (wt_it (wt_tL n) m s).bind (wp_md_tongue_B134 n) := by
  refine wt_it_fac (fun K s => ?_) m s
  unfold wp_md_tongue_B47 wt_tL
  by_cases h1 : (wt_gf s 108 5) = 0
  · rw [if_pos h1, if_pos h1]
    by_cases h2 : (wt_gf s 108 2) ≤ (wt_gf s 108 4)
    · rw [if_pos h2, if_pos h2]
      rfl
    · rw [if_neg h2, if_neg h2]
      unfold wt_gB
      cases wp_md_reads n (0 : Int32) s with
      | none => rfl
      | some a =>
        show ((wp_md_blanks n a).bind fun q26 => wt_it (wp_md_tongue_B76 n (fun a => (K a).bind (wp_md_tongue_B134 n))) n ((1 : Int32), q26)) = ((((wp_md_blanks n a).bind fun q26 => (wt_it (wt_gL n) n (((0 : Int32) + (1 : Int32)), q26)).bind fun c => wp_md_closes n (59 : Int32) c.2).bind fun q28 => (wp_md_blanks n q28).bind fun q29 => K q29).bind (wp_md_tongue_B134 n))
        cases wp_md_blanks n a with
        | none => rfl
        | some b =>
          show wt_it (wp_md_tongue_B76 n (fun a => (K a).bind (wp_md_tongue_B134 n))) n ((1 : Int32), b) = ((((wt_it (wt_gL n) n (((0 : Int32) + (1 : Int32)), b)).bind fun c => wp_md_closes n (59 : Int32) c.2).bind fun q28 => (wp_md_blanks n q28).bind fun q29 => K q29).bind (wp_md_tongue_B134 n))
          rw [wt_gL_fac, show ((0 : Int32) + (1 : Int32)) = (1 : Int32) from by decide]
          cases wt_it (wt_gL n) n ((1 : Int32), b) with
          | none => rfl
          | some c =>
            show wp_md_tongue_B121 n (fun a => (K a).bind (wp_md_tongue_B134 n)) c.2 = (((wp_md_closes n (59 : Int32) c.2).bind fun q28 => (wp_md_blanks n q28).bind fun q29 => K q29).bind (wp_md_tongue_B134 n))
            unfold wp_md_tongue_B121
            cases wp_md_closes n (59 : Int32) c.2 with
            | none => rfl
            | some d =>
              show ((wp_md_blanks n d).bind fun q29 => (K q29).bind (wp_md_tongue_B134 n)) = (((wp_md_blanks n d).bind fun q29 => K q29).bind (wp_md_tongue_B134 n))
              cases wp_md_blanks n d with
              | none => rfl
              | some f => rfl
  · rw [if_neg h1, if_neg h1]
    rfl
theorem wt_gL_f (n m : Nat) (s : Int32 × wt_St) (h : ¬ wt_gf s.2 108 5 = 0) : wt_H (wt_it (wt_gL n) m s) (fun y => y = s) := by
  cases m with
  | zero => exact wt_H_none
  | succ m =>
    show wt_H (wt_gL n (wt_it (wt_gL n) m) s) _
    unfold wt_gL
    rw [if_neg h]
    exact wt_H_some rfl
theorem wt_tL_f (n m : Nat) (s : wt_St) (h : ¬ wt_gf s 108 5 = 0) : wt_H (wt_it (wt_tL n) m s) (fun y => y = s) := by
  cases m with
  | zero => exact wt_H_none
  | succ m =>
    show wt_H (wt_tL n (wt_it (wt_tL n) m) s) _
    unfold wt_tL
    rw [if_neg h]
    exact wt_H_some rfl
theorem wh_blanksF (n : Nat) {b : wt_St} : wt_H (wp_md_blanks n b) (fun w => wt_fr (fun i k => i = 108 ∧ k = 4) (fun _ => False) b w) := by
  unfold wp_md_blanks
  refine wt_H_it (fun w : wt_St => wt_fr (fun i k => i = 108 ∧ k = 4) (fun _ => False) b w) (fun K2 w hw hK2 => ?_) n b wt_fr.rf
  unfold wp_md_blanks_B0
  have BA : wt_H (wp_md_byteAt n (wt_gf w 108 4) w) (fun q => q.2 = w) := by
    unfold wp_md_byteAt
    exact wt_H_if (fun _ => wt_H_gd (fun _ => wt_H_some rfl)) (fun _ => wt_H_some rfl)
  refine wt_H_bh BA (fun q hq => ?_)
  rw [hq]
  exact wt_H_if (fun _ => hK2 _ (wt_fr.tr hw (wt_fr_sf rfl) (fun i k h => h) (fun i h => h))) (fun _ => wt_H_some hw)
/-- the left program's end is only laid anew -/
theorem wt_HH_lt {β : Type} {x : Option (Int32 × wt_St)} {y : Option β} {P Q : Int32 × wt_St → β → Prop} (h : wt_HH x y P) (k : ∀ a b, P a b → Q a b) : wt_HH (x.bind fun q8 => some (q8.1, q8.2)) y Q := by
  cases x with
  | none => exact wt_HH_nl
  | some a =>
    intro u v e e'
    cases e
    exact k _ _ (h a v rfl e')
set_option maxRecDepth 100000 in
set_option maxHeartbeats 8000000 in
theorem wr_groupLoop (n : Nat) (hn : 4294967297 < n) {β : Nat → Int32} {e F G : Nat} {x2 : Int32} (h2 : x2.toInt = (F : Int)) : ∀ (m m' k p : Nat) (x : Int32) (s z : wt_St), x.toInt = (k : Int) → k ≤ 5 → (1 ≤ k → G < 20) → wt_tv β e p s → wt_rv β e p z → wt_gf z 108 5 = 0 → wt_gr F k G s z → wt_HH (wt_it (wp_tg_fillGroup_B7 n 27 x2) m (x, s)) (wt_gB n m' x z) (fun q y => (q.1 = 0 ∧ wt_ft q.2 y) ∨ (q.1 = 1 ∧ (∃ W, wt_ok (wt_gr W 0 (G + 1)) β e q.2 y) ∧ G < 20)) := by
  have k0 : (0 : Int32).toInt = 0 := by decide
  have k1 : (1 : Int32).toInt = 1 := by decide
  have k5 : (5 : Int32).toInt = 5 := by decide
  intro m
  induction m with
  | zero => intro m' k p x s z _ _ _ _ _ _ _; exact wt_HH_nl
  | succ m ih =>
    intro m' k p x s z hx hk hg tv rv h0 gr
    show wt_HH (wp_tg_fillGroup_B7 n 27 x2 (wt_it (wp_tg_fillGroup_B7 n 27 x2) m) (x, s)) _ _
    unfold wp_tg_fillGroup_B7 wt_gB
    dsimp only
    rw [if_neg (fun h => by have := wt_clt h; omega)]
    refine wt_HH_b (wr_fillWord n hn hx hk hg tv rv h0 gr) (fun a b hab => ?_)
    rcases hab with ⟨a1, f, pp, hf, fl, fm⟩ | ⟨a1, ⟨p2, tv2, rv2, h02, gr2⟩, lk5, G20⟩
    · rw [if_pos a1]
      refine wt_HH_r (wh_blanksF n) (fun w hw => ?_)
      have fw := wt_frt_fr fm hw (by (try dsimp only); omega) (by (try dsimp only); omega)
      refine wt_HH_r (wt_gL_f n m' _ (wt_frt_nz fw hf)) (fun y hy => ?_)
      subst hy
      exact wt_HH_of (P := fun q => q = ((0 : Int32), a.2)) (wt_H_some rfl) (wh_closesN n (wt_frt_nz fw hf)) (fun q y hq hy => Or.inl ⟨by rw [hq], f, pp, hf, by rw [hq]; exact fl, by rw [hy]; exact fw⟩)
    · rw [if_neg (by rw [a1]; decide)]
      refine wt_HH_r (wh_blanks n rv2) (fun w hw => ?_)
      obtain ⟨j, r, rvw, frw⟩ := hw
      refine wt_HH_l (wh_takeSign n hn (44 : Int32) tv2) (fun q4 h4 => ?_)
      obtain ⟨j', r', st4, fr4, hc⟩ := h4
      have ej : j' = j := wt_run_u r' r
      rw [ej] at hc
      have h0w : wt_gf w 108 5 = 0 := (frw.1 108 5 (by (try dsimp only); omega)).trans h02
      have grw : wt_gr F (k + 1) G q4.2 w := wt_gr_lxc _ _ _ _ gr2 (wt_frw fr4 (fun i k h => h) (fun i h => h.elim)) frw
      have e1 := wt_i1 (c := x) (by omega)
      cases m' with
      | zero => exact wt_HH_nr
      | succ m' =>
        show wt_HH _ ((wt_gL n (wt_it (wt_gL n) m') ((x + (1 : Int32)), w)).bind fun a => wp_md_closes n (59 : Int32) a.2) _
        unfold wt_gL
        dsimp only
        rw [if_pos h0w, Option.bind_assoc]
        refine wt_HH_r (wh_byteAt n rvw (j := j) rvw.2.2.1) (fun y30 h30 => ?_)
        rcases hc with ⟨z1, lt, eq, tv4⟩ | ⟨z1, ne, tv4⟩
        · rw [if_neg (by rw [z1]; decide)]
          rcases h30 with ⟨ge, -⟩ | ⟨-, hq⟩
          · omega
          · subst hq
            dsimp only
            rw [if_pos eq]
            have e4 := wt_i1 (c := wt_gf w 108 4) (by rw [rvw.2.2.1]; have := rvw.2.2.2; omega)
            obtain ⟨z5, ε⟩ : ∃ o : wt_St, o = wt_sf w 108 4 ((wt_gf w 108 4) + (1 : Int32)) := ⟨_, rfl⟩
            rw [← ε]
            have p5 := wt_fr_sf ε
            have R := ih m' (k + 1) (j + 1) (x + (1 : Int32)) q4.2 z5 (by omega) (by omega) (fun _ => G20) tv4 (wt_rv_adv rvw ε (by rw [e4, rvw.2.2.1]; omega) (by omega)) ((p5.1 108 5 (by (try dsimp only); omega)).trans h0w) (wt_gr_lxc _ _ _ _ grw wt_fr.rf p5)
            unfold wt_gB at R
            simp only [Option.bind_assoc]
            exact R
        · rw [if_pos z1]
          have NS : y30.2 = w ∧ ¬ y30.1 = (44 : Int32) := by
            rcases h30 with ⟨ge, hq⟩ | ⟨hlt, hq⟩
            · rw [hq]; exact ⟨rfl, fun h => absurd (show (-1 : Int32) = _ from h) (by decide)⟩
            · rw [hq]; exact ⟨rfl, fun h => ne ⟨hlt, h⟩⟩
          rw [if_neg NS.2, NS.1]
          show wt_HH _ (wp_md_closes n (59 : Int32) w) _
          obtain ⟨⟨A1, A2, A3⟩, ⟨B1, B2, B3⟩, C, D, EW, PL⟩ := grw
          refine wt_HH_l (wh_put n (k := G) B1 (by rw [show wt_ln (27 + 5) = 20 from by decide]; exact G20)) (fun s6 ε6 => ?_)
          have f6 := wt_fr_sa ε6
          have e66 : wt_gf s6 27 6 = wt_gf q4.2 27 6 := f6.1 27 6 (fun h => h)
          have e67 : wt_gf s6 27 7 = wt_gf q4.2 27 7 := f6.1 27 7 (fun h => h)
          rw [e66, e67]
          refine wt_HH_l (wh_put n (k := G) B1 (by rw [show wt_ln (27 + 6) = 20 from by decide]; exact G20)) (fun s7 ε7 => ?_)
          have f7 := wt_fr_sa ε7
          have e77 : wt_gf s7 27 7 = wt_gf q4.2 27 7 := (f7.1 27 7 (fun h => h)).trans e67
          rw [e77]
          obtain ⟨s8, ε8⟩ : ∃ o : wt_St, o = wt_sf s7 27 7 ((wt_gf q4.2 27 7) + (1 : Int32)) := ⟨_, rfl⟩
          rw [← ε8]
          have f8 := wt_fr_sf ε8
          have T : wt_fr (fun i k => i = 27 ∧ k = 7) (fun i => i = 32 ∨ i = 33) q4.2 s8 := ((wt_fr.rf.sa ε6 (by first | decide | ((try dsimp only); omega))).sa ε7 (by first | decide | ((try dsimp only); omega))).sf ε8 ⟨rfl, rfl⟩
          have es := wt_subE (x := wt_gf q4.2 27 6) (y := x2) (by omega) (by omega)
          have eg := wt_i1 (c := wt_gf q4.2 27 7) (by omega)
          have v32 : wt_ga s8 32 G = x2 := by rw [f8.2 32 (fun h => h), f7.2 32 (by decide)]; exact wt_v_sa ε6
          have v33 : wt_ga s8 33 G = (wt_gf q4.2 27 6) - x2 := by rw [f8.2 33 (fun h => h)]; exact wt_v_sa ε7
          have o32 : ∀ g, g ≠ G → wt_ga s8 32 g = wt_ga q4.2 32 g := fun g hg' => by rw [f8.2 32 (fun h => h), f7.2 32 (by decide)]; exact wt_w_sa ε6 g hg'
          have o33 : ∀ g, g ≠ G → wt_ga s8 33 g = wt_ga q4.2 33 g := fun g hg' => by rw [f8.2 33 (fun h => h), ← f6.2 33 (by decide)]; exact wt_w_sa ε7 g hg'
          have GR : wt_gr (F + (k + 1)) 0 (G + 1) s8 w := by
            refine ⟨⟨?_, A2, A3⟩, ⟨?_, ?_, by omega⟩, wt_tt_fr C T wt_fr.rf (fun i h1 h2 => by (try dsimp only); omega) (F' := fun _ _ => False) (A' := fun _ => False) (fun i _ h => h), ⟨fun g hg' => ?_, fun v hv => ?_⟩, fun v h1 h2 => absurd h2 (by omega), ?_⟩
            · rw [T.1 27 6 (by decide)]; exact A1
            · rw [wt_v_sf ε8]; omega
            · omega
            · show ∃ f m : Nat, (wt_ga s8 32 g).toInt = (f : Int) ∧ (wt_ga s8 33 g).toInt = (m : Int) ∧ 1 ≤ m ∧ m ≤ 5 ∧ f + m ≤ F + (k + 1) ∧ ∀ v, v < F + (k + 1) → ((wt_ga s8 31 v).toInt = (g : Int) ↔ f ≤ v ∧ v < f + m)
              by_cases hc' : g = G
              · rw [hc', v32, v33]
                refine ⟨F, k + 1, h2, by omega, by omega, by omega, by omega, fun v hv => ?_⟩
                rw [T.2 31 (by decide)]
                constructor
                · intro hq
                  by_cases hF : v < F
                  · have h9 : 0 ≤ (wt_ga q4.2 31 v).toInt ∧ (wt_ga q4.2 31 v).toInt < (G : Int) := D.2 v hF
                    omega
                  · omega
                · intro hq
                  exact EW v hq.1 (by omega)
              · rw [o32 g hc', o33 g hc']
                obtain ⟨f, mm, d1, d2, d3, d4, d5, d6⟩ := D.1 g (by omega)
                refine ⟨f, mm, d1, d2, d3, d4, by omega, fun v hv => ?_⟩
                rw [T.2 31 (by decide)]
                by_cases hF : v < F
                · exact d6 v hF
                · have h9 := EW v (by omega) hv
                  constructor
                  · intro hq; omega
                  · intro hq; omega
            · show 0 ≤ (wt_ga s8 31 v).toInt ∧ (wt_ga s8 31 v).toInt < ((G + 1 : Nat) : Int)
              rw [T.2 31 (by decide)]
              by_cases hF : v < F
              · have h9 : 0 ≤ (wt_ga q4.2 31 v).toInt ∧ (wt_ga q4.2 31 v).toInt < (G : Int) := D.2 v hF
                omega
              · have h9 := EW v (by omega) (by omega)
                omega
            · rw [T.1 1 7 (by decide)]; exact PL
          refine wt_HH_lt (wr_need n hn (R := wt_gr (F + (k + 1)) 0 (G + 1)) wt_gr_lxc (x := (59 : Int32)) (by decide) ⟨j, wt_tv_fr tv4 T (by decide) (by decide) (by decide), rvw, h0w, GR⟩) ?_
          intro q y hq
          exact hq.elim (fun h => Or.inl h) (fun h => Or.inr ⟨h.1, ⟨_, h.2⟩, G20⟩)
end WTQ5
