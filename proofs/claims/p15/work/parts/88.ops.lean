/-! the 36 calls: both sides end, and what holds between the calls holds again -/
def wt_C_feed (n : Nat) (Inv : wt_St → Prop) : Prop := ∀ (σ : wt_St) (x1 x2 x3 x4 x5 : Int32), Inv σ → ∃ q : Int32 × wt_St, wp_ap_feed n x1 x2 x3 x4 x5 σ = some q ∧ ∃ r : Int32 × wt_St, wp_md_feed n x1 x2 x3 x4 x5 q.2 = some r ∧ Inv r.2
def wt_C_kase (n : Nat) (Inv : wt_St → Prop) : Prop := ∀ (σ : wt_St) (x1 : Int32), Inv σ → ∃ q : Nat × Int32 × wt_St, wp_ap_kase n x1 σ = some q ∧ (q.1 = 0 ∨ q.1 = 1) ∧ ∃ r : Int32 × wt_St, wp_md_kase n x1 q.2.2 = some r ∧ Inv r.2
def wt_C_tongue (n : Nat) (Inv : wt_St → Prop) : Prop := ∀ (σ : wt_St) (x1 : Int32), Inv σ → ∃ q : Nat × Int32 × wt_St, wp_ap_tongue n x1 σ = some q ∧ (q.1 = 0 ∨ q.1 = 1) ∧ ∃ r : Int32 × wt_St, wp_md_tongue n x1 q.2.2 = some r ∧ Inv r.2
def wt_C_text (n : Nat) (Inv : wt_St → Prop) : Prop := ∀ (σ : wt_St) (x1 : Int32), Inv σ → ∃ q : Nat × Int32 × wt_St, wp_ap_text n x1 σ = some q ∧ (q.1 = 0 ∨ q.1 = 1) ∧ ∃ r : Int32 × wt_St, wp_md_text n x1 q.2.2 = some r ∧ Inv r.2
def wt_C_fault (n : Nat) (Inv : wt_St → Prop) : Prop := ∀ (σ : wt_St), Inv σ → ∃ q : Int32 × wt_St, wp_ap_fault n σ = some q ∧ ∃ r : Int32 × wt_St, wp_md_fault n q.2 = some r ∧ Inv r.2
def wt_C_told (n : Nat) (Inv : wt_St → Prop) : Prop := ∀ (σ : wt_St) (x1 : Int32), Inv σ → ∃ q : Nat × Int32 × wt_St, wp_ap_told n x1 σ = some q ∧ (q.1 = 0 ∨ q.1 = 1) ∧ ∃ r : Int32 × wt_St, wp_md_told n x1 q.2.2 = some r ∧ Inv r.2
def wt_C_letter (n : Nat) (Inv : wt_St → Prop) : Prop := ∀ (σ : wt_St) (x1 x2 : Int32), Inv σ → ∃ q : Nat × Int32 × wt_St, wp_ap_letter n x1 x2 σ = some q ∧ (q.1 = 0 ∨ q.1 = 1) ∧ ∃ r : Int32 × wt_St, wp_md_letter n x1 x2 q.2.2 = some r ∧ Inv r.2
def wt_C_piece (n : Nat) (Inv : wt_St → Prop) : Prop := ∀ (σ : wt_St) (x1 x2 x3 : Int32), Inv σ → ∃ q : Nat × Int32 × wt_St, wp_ap_piece n x1 x2 x3 σ = some q ∧ (q.1 = 0 ∨ q.1 = 3 ∨ q.1 = 1) ∧ ∃ r : Int32 × wt_St, wp_md_piece n x1 x2 x3 q.2.2 = some r ∧ Inv r.2
def wt_C_word (n : Nat) (Inv : wt_St → Prop) : Prop := ∀ (σ : wt_St) (x1 x2 : Int32), Inv σ → ∃ q : Nat × Int32 × wt_St, wp_ap_word n x1 x2 σ = some q ∧ (q.1 = 0 ∨ q.1 = 2 ∨ q.1 = 1) ∧ ∃ r : Int32 × wt_St, wp_md_word n x1 x2 q.2.2 = some r ∧ Inv r.2
def wt_C_at (n : Nat) (Inv : wt_St → Prop) : Prop := ∀ (σ : wt_St) (x1 x2 : Int32), Inv σ → ∃ q : Nat × Int32 × wt_St, wp_ap_at n x1 x2 σ = some q ∧ (q.1 = 0 ∨ q.1 = 2) ∧ ∃ r : Int32 × wt_St, wp_md_at n x1 x2 q.2.2 = some r ∧ Inv r.2
def wt_C_needs (n : Nat) (Inv : wt_St → Prop) : Prop := ∀ (σ : wt_St) (x1 x2 : Int32), Inv σ → ∃ q : Nat × Int32 × wt_St, wp_ap_needs n x1 x2 σ = some q ∧ (q.1 = 0 ∨ q.1 = 2 ∨ q.1 = 1) ∧ ∃ r : Int32 × wt_St, wp_md_needs n x1 x2 q.2.2 = some r ∧ Inv r.2
def wt_C_habit (n : Nat) (Inv : wt_St → Prop) : Prop := ∀ (σ : wt_St) (x1 : Int32), Inv σ → ∃ q : Nat × Int32 × wt_St, wp_ap_habit n x1 σ = some q ∧ (q.1 = 0 ∨ q.1 = 1) ∧ ∃ r : Int32 × wt_St, wp_md_habit n x1 q.2.2 = some r ∧ Inv r.2
def wt_C_can (n : Nat) (Inv : wt_St → Prop) : Prop := ∀ (σ : wt_St) (x1 : Int32), Inv σ → ∃ q : Nat × Int32 × wt_St, wp_ap_can n x1 σ = some q ∧ (q.1 = 0 ∨ q.1 = 2) ∧ ∃ r : Int32 × wt_St, wp_md_can n x1 q.2.2 = some r ∧ Inv r.2
def wt_C_lacks (n : Nat) (Inv : wt_St → Prop) : Prop := ∀ (σ : wt_St) (x1 x2 : Int32), Inv σ → ∃ q : Nat × Int32 × wt_St, wp_ap_lacks n x1 x2 σ = some q ∧ (q.1 = 0 ∨ q.1 = 2 ∨ q.1 = 1) ∧ ∃ r : Int32 × wt_St, wp_md_lacks n x1 x2 q.2.2 = some r ∧ Inv r.2
def wt_C_set (n : Nat) (Inv : wt_St → Prop) : Prop := ∀ (σ : wt_St) (x1 x2 : Int32), Inv σ → ∃ q : Nat × Int32 × wt_St, wp_ap_set n x1 x2 σ = some q ∧ (q.1 = 0 ∨ q.1 = 2 ∨ q.1 = 1) ∧ ∃ r : Int32 × wt_St, wp_md_set n x1 x2 q.2.2 = some r ∧ Inv r.2
def wt_C_print (n : Nat) (Inv : wt_St → Prop) : Prop := ∀ (σ : wt_St) (x1 x2 : Int32), Inv σ → ∃ q : Nat × Int32 × wt_St, wp_ap_print n x1 x2 σ = some q ∧ (q.1 = 0 ∨ q.1 = 2 ∨ q.1 = 1) ∧ ∃ r : Int32 × wt_St, wp_md_print n x1 x2 q.2.2 = some r ∧ Inv r.2
def wt_C_apart (n : Nat) (Inv : wt_St → Prop) : Prop := ∀ (σ : wt_St) (x1 : Int32), Inv σ → ∃ q : Nat × Int32 × wt_St, wp_ap_apart n x1 σ = some q ∧ (q.1 = 0 ∨ q.1 = 2) ∧ ∃ r : Int32 × wt_St, wp_md_apart n x1 q.2.2 = some r ∧ Inv r.2
def wt_C_page (n : Nat) (Inv : wt_St → Prop) : Prop := ∀ (σ : wt_St) (x1 x2 : Int32), Inv σ → ∃ q : Nat × Int32 × wt_St, wp_ap_page n x1 x2 σ = some q ∧ (q.1 = 0 ∨ q.1 = 2 ∨ q.1 = 1) ∧ ∃ r : Int32 × wt_St, wp_md_page n x1 x2 q.2.2 = some r ∧ Inv r.2
def wt_C_read (n : Nat) (Inv : wt_St → Prop) : Prop := ∀ (σ : wt_St) (x1 x2 : Int32), Inv σ → ∃ q : Nat × Int32 × wt_St, wp_ap_read n x1 x2 σ = some q ∧ (q.1 = 0 ∨ q.1 = 2) ∧ ∃ r : Int32 × wt_St, wp_md_read n x1 x2 q.2.2 = some r ∧ Inv r.2
def wt_C_least (n : Nat) (Inv : wt_St → Prop) : Prop := ∀ (σ : wt_St) (x1 x2 x3 : Int32), Inv σ → ∃ q : Nat × Int32 × wt_St, wp_ap_least n x1 x2 x3 σ = some q ∧ (q.1 = 0 ∨ q.1 = 2 ∨ q.1 = 1) ∧ ∃ r : Int32 × wt_St, wp_md_least n x1 x2 x3 q.2.2 = some r ∧ Inv r.2
def wt_C_fitting (n : Nat) (Inv : wt_St → Prop) : Prop := ∀ (σ : wt_St) (x1 x2 x3 x4 : Int32), Inv σ → ∃ q : Nat × Int32 × wt_St, wp_ap_fitting n x1 x2 x3 x4 σ = some q ∧ (q.1 = 0 ∨ q.1 = 2 ∨ q.1 = 1) ∧ ∃ r : Int32 × wt_St, wp_md_fitting n x1 x2 x3 x4 q.2.2 = some r ∧ Inv r.2
def wt_C_wordings (n : Nat) (Inv : wt_St → Prop) : Prop := ∀ (σ : wt_St) (x1 : Int32), Inv σ → ∃ q : Nat × Int32 × wt_St, wp_ap_wordings n x1 σ = some q ∧ (q.1 = 0 ∨ q.1 = 2) ∧ ∃ r : Int32 × wt_St, wp_md_wordings n x1 q.2.2 = some r ∧ Inv r.2
def wt_C_want (n : Nat) (Inv : wt_St → Prop) : Prop := ∀ (σ : wt_St) (x1 x2 x3 x4 : Int32), Inv σ → ∃ q : Nat × Int32 × wt_St, wp_ap_want n x1 x2 x3 x4 σ = some q ∧ (q.1 = 0 ∨ q.1 = 2 ∨ q.1 = 1) ∧ ∃ r : Int32 × wt_St, wp_md_want n x1 x2 x3 x4 q.2.2 = some r ∧ Inv r.2
def wt_C_forget (n : Nat) (Inv : wt_St → Prop) : Prop := ∀ (σ : wt_St), Inv σ → ∃ q : Int32 × wt_St, wp_ap_forget n σ = some q ∧ ∃ r : Int32 × wt_St, wp_md_forget n q.2 = some r ∧ Inv r.2
def wt_C_most (n : Nat) (Inv : wt_St → Prop) : Prop := ∀ (σ : wt_St) (x1 : Int32), Inv σ → ∃ q : Nat × Int32 × wt_St, wp_ap_most n x1 σ = some q ∧ (q.1 = 0 ∨ q.1 = 1) ∧ ∃ r : Int32 × wt_St, wp_md_most n x1 q.2.2 = some r ∧ Inv r.2
def wt_C_greedy (n : Nat) (Inv : wt_St → Prop) : Prop := ∀ (σ : wt_St) (x1 : Int32), Inv σ → ∃ q : Nat × Int32 × wt_St, wp_ap_greedy n x1 σ = some q ∧ (q.1 = 0 ∨ q.1 = 1) ∧ ∃ r : Int32 × wt_St, wp_md_greedy n x1 q.2.2 = some r ∧ Inv r.2
def wt_C_bound (n : Nat) (Inv : wt_St → Prop) : Prop := ∀ (σ : wt_St), Inv σ → ∃ q : Int32 × wt_St, wp_ap_bound n σ = some q ∧ ∃ r : Int32 × wt_St, wp_md_bound n q.2 = some r ∧ Inv r.2
def wt_C_said (n : Nat) (Inv : wt_St → Prop) : Prop := ∀ (σ : wt_St) (x1 x2 : Int32), Inv σ → ∃ q : Nat × Int32 × wt_St, wp_ap_said n x1 x2 σ = some q ∧ (q.1 = 0 ∨ q.1 = 2 ∨ q.1 = 1) ∧ ∃ r : Int32 × wt_St, wp_md_said n x1 x2 q.2.2 = some r ∧ Inv r.2
def wt_C_lost (n : Nat) (Inv : wt_St → Prop) : Prop := ∀ (σ : wt_St) (x1 : Int32), Inv σ → ∃ q : Nat × Int32 × wt_St, wp_ap_lost n x1 σ = some q ∧ (q.1 = 0 ∨ q.1 = 1) ∧ ∃ r : Int32 × wt_St, wp_md_lost n x1 q.2.2 = some r ∧ Inv r.2
def wt_C_ends (n : Nat) (Inv : wt_St → Prop) : Prop := ∀ (σ : wt_St) (x1 : Int32), Inv σ → ∃ q : Nat × Int32 × wt_St, wp_ap_ends n x1 σ = some q ∧ (q.1 = 0 ∨ q.1 = 2) ∧ ∃ r : Int32 × wt_St, wp_md_ends n x1 q.2.2 = some r ∧ Inv r.2
def wt_C_exchange (n : Nat) (Inv : wt_St → Prop) : Prop := ∀ (σ : wt_St) (x1 : Int32), Inv σ → ∃ q : Nat × Int32 × wt_St, wp_ap_exchange n x1 σ = some q ∧ (q.1 = 0 ∨ q.1 = 2) ∧ ∃ r : Int32 × wt_St, wp_md_exchange n x1 q.2.2 = some r ∧ Inv r.2
def wt_C_cast (n : Nat) (Inv : wt_St → Prop) : Prop := ∀ (σ : wt_St) (x1 x2 : Int32), Inv σ → ∃ q : Nat × Int32 × wt_St, wp_ap_cast n x1 x2 σ = some q ∧ (q.1 = 0 ∨ q.1 = 2 ∨ q.1 = 1) ∧ ∃ r : Int32 × wt_St, wp_md_cast n x1 x2 q.2.2 = some r ∧ Inv r.2
def wt_C_together (n : Nat) (Inv : wt_St → Prop) : Prop := ∀ (σ : wt_St) (x1 : Int32), Inv σ → ∃ q : Nat × Int32 × wt_St, wp_ap_together n x1 σ = some q ∧ (q.1 = 0 ∨ q.1 = 1) ∧ ∃ r : Int32 × wt_St, wp_md_together n x1 q.2.2 = some r ∧ Inv r.2
def wt_C_image (n : Nat) (Inv : wt_St → Prop) : Prop := ∀ (σ : wt_St), Inv σ → ∃ q : Int32 × wt_St, wp_ap_image n σ = some q ∧ ∃ r : Int32 × wt_St, wp_md_image n q.2 = some r ∧ Inv r.2
def wt_C_restore (n : Nat) (Inv : wt_St → Prop) : Prop := ∀ (σ : wt_St), Inv σ → ∃ q : Int32 × wt_St, wp_ap_restore n σ = some q ∧ ∃ r : Int32 × wt_St, wp_md_restore n q.2 = some r ∧ Inv r.2
def wt_C_count (n : Nat) (Inv : wt_St → Prop) : Prop := ∀ (σ : wt_St) (x1 : Int32), Inv σ → ∃ q : Int32 × wt_St, wp_ap_count n x1 σ = some q ∧ ∃ r : Int32 × wt_St, wp_md_count n x1 q.2 = some r ∧ Inv r.2
/-- what holds between the calls, and both tapes are as long -/
def wt_Inv (σ : wt_St) : Prop := wt_IV σ ∧ (wt_gf σ 1 2).toInt = (wt_gf σ 108 1).toInt
set_option maxHeartbeats 4000000 in
theorem wq_C_fault (n : Nat) (hn : 4294967297 < n) : wt_C_fault n wt_Inv := by
  intro σ hI
  obtain ⟨q, hq, hc⟩ := wq_ap_fault n hn σ
  have fq := hc
  have v : wt_IV q.2 := by rw [fq]; exact hI.1
  have t1 : (wt_gf q.2 1 2).toInt = (wt_gf q.2 108 1).toInt := by rw [fq]; exact hI.2
  obtain ⟨r, hr, hm⟩ := wq_md_fault n hn q.2 v.1
  obtain ⟨fr, rr⟩ := hm
  refine ⟨q, hq, r, hr, ?_, ?_⟩
  · exact wt_IV_fr v rr fr (by (try dsimp only); first | omega | exact fun h => h) (by (try dsimp only); first | omega | exact fun h => h) (fun i hi => by unfold wt_PA at hi; first | (dsimp only; omega) | omega | exact fun h => h)
  · rw [fr.1 1 2 (by (try dsimp only); first | omega | exact fun h => h), fr.1 108 1 (by (try dsimp only); first | omega | exact fun h => h)]; exact t1
set_option maxHeartbeats 4000000 in
theorem wq_C_told (n : Nat) (hn : 4294967297 < n) : wt_C_told n wt_Inv := by
  intro σ x1 hI
  obtain ⟨q, hq, hc⟩ := wq_ap_told n hn x1 σ
  obtain ⟨fq, cq⟩ := hc
  have v : wt_IV q.2.2 := by rw [fq]; exact hI.1
  have t1 : (wt_gf q.2.2 1 2).toInt = (wt_gf q.2.2 108 1).toInt := by rw [fq]; exact hI.2
  obtain ⟨r, hr, hm⟩ := wq_md_told n hn x1 q.2.2 v.1
  obtain ⟨fr, rr⟩ := hm
  refine ⟨q, hq, ?_, r, hr, ?_, ?_⟩
  · omega
  · exact wt_IV_fr v rr fr (by (try dsimp only); first | omega | exact fun h => h) (by (try dsimp only); first | omega | exact fun h => h) (fun i hi => by unfold wt_PA at hi; first | (dsimp only; omega) | omega | exact fun h => h)
  · rw [fr.1 1 2 (by (try dsimp only); first | omega | exact fun h => h), fr.1 108 1 (by (try dsimp only); first | omega | exact fun h => h)]; exact t1
set_option maxHeartbeats 4000000 in
theorem wq_C_letter (n : Nat) (hn : 4294967297 < n) : wt_C_letter n wt_Inv := by
  intro σ x1 x2 hI
  obtain ⟨q, hq, hc⟩ := wq_ap_letter n hn x1 x2 σ
  obtain ⟨fq, cq⟩ := hc
  have v : wt_IV q.2.2 := by rw [fq]; exact hI.1
  have t1 : (wt_gf q.2.2 1 2).toInt = (wt_gf q.2.2 108 1).toInt := by rw [fq]; exact hI.2
  obtain ⟨r, hr, hm⟩ := wq_md_letter n hn x1 x2 q.2.2 v.1
  obtain ⟨fr, rr⟩ := hm
  refine ⟨q, hq, ?_, r, hr, ?_, ?_⟩
  · omega
  · exact wt_IV_fr v rr fr (by (try dsimp only); first | omega | exact fun h => h) (by (try dsimp only); first | omega | exact fun h => h) (fun i hi => by unfold wt_PA at hi; first | (dsimp only; omega) | omega | exact fun h => h)
  · rw [fr.1 1 2 (by (try dsimp only); first | omega | exact fun h => h), fr.1 108 1 (by (try dsimp only); first | omega | exact fun h => h)]; exact t1
set_option maxHeartbeats 4000000 in
theorem wq_C_piece (n : Nat) (hn : 4294967297 < n) : wt_C_piece n wt_Inv := by
  intro σ x1 x2 x3 hI
  obtain ⟨q, hq, hc⟩ := wq_ap_piece n hn x1 x2 x3 σ
  obtain ⟨fq, cq⟩ := hc
  have v : wt_IV q.2.2 := by rw [fq]; exact hI.1
  have t1 : (wt_gf q.2.2 1 2).toInt = (wt_gf q.2.2 108 1).toInt := by rw [fq]; exact hI.2
  obtain ⟨r, hr, hm⟩ := wq_md_piece n hn x1 x2 x3 q.2.2 v.1
  obtain ⟨fr, rr⟩ := hm
  refine ⟨q, hq, ?_, r, hr, ?_, ?_⟩
  · omega
  · exact wt_IV_fr v rr fr (by (try dsimp only); first | omega | exact fun h => h) (by (try dsimp only); first | omega | exact fun h => h) (fun i hi => by unfold wt_PA at hi; first | (dsimp only; omega) | omega | exact fun h => h)
  · rw [fr.1 1 2 (by (try dsimp only); first | omega | exact fun h => h), fr.1 108 1 (by (try dsimp only); first | omega | exact fun h => h)]; exact t1
set_option maxHeartbeats 4000000 in
theorem wq_C_word (n : Nat) (hn : 4294967297 < n) : wt_C_word n wt_Inv := by
  intro σ x1 x2 hI
  obtain ⟨q, hq, hc⟩ := wq_ap_word n hn x1 x2 σ
  obtain ⟨fq, cq⟩ := hc
  have v : wt_IV q.2.2 := wt_IV_cls hI.1 fq (fun k => (by (try dsimp only); first | omega | exact fun h => h)) (fun i hi => (by (try dsimp only); first | omega | exact fun h => h))
  have t1 : (wt_gf q.2.2 1 2).toInt = (wt_gf q.2.2 108 1).toInt := by rw [fq.1 1 2 (by (try dsimp only); first | omega | exact fun h => h), fq.1 108 1 (by (try dsimp only); first | omega | exact fun h => h)]; exact hI.2
  obtain ⟨r, hr, hm⟩ := wq_md_word n hn x1 x2 q.2.2 v.1
  obtain ⟨fr, rr⟩ := hm
  refine ⟨q, hq, ?_, r, hr, ?_, ?_⟩
  · omega
  · exact wt_IV_fr v rr fr (by (try dsimp only); first | omega | exact fun h => h) (by (try dsimp only); first | omega | exact fun h => h) (fun i hi => by unfold wt_PA at hi; first | (dsimp only; omega) | omega | exact fun h => h)
  · rw [fr.1 1 2 (by (try dsimp only); first | omega | exact fun h => h), fr.1 108 1 (by (try dsimp only); first | omega | exact fun h => h)]; exact t1
set_option maxHeartbeats 4000000 in
theorem wq_C_at (n : Nat) (hn : 4294967297 < n) : wt_C_at n wt_Inv := by
  intro σ x1 x2 hI
  obtain ⟨q, hq, hc⟩ := wq_ap_at n hn x1 x2 σ
  obtain ⟨fq, cq⟩ := hc
  have v : wt_IV q.2.2 := by rw [fq]; exact hI.1
  have t1 : (wt_gf q.2.2 1 2).toInt = (wt_gf q.2.2 108 1).toInt := by rw [fq]; exact hI.2
  obtain ⟨r, hr, hm⟩ := wq_md_at n hn x1 x2 q.2.2 v.1
  obtain ⟨fr, rr⟩ := hm
  refine ⟨q, hq, ?_, r, hr, ?_, ?_⟩
  · omega
  · exact wt_IV_fr v rr fr (by (try dsimp only); first | omega | exact fun h => h) (by (try dsimp only); first | omega | exact fun h => h) (fun i hi => by unfold wt_PA at hi; first | (dsimp only; omega) | omega | exact fun h => h)
  · rw [fr.1 1 2 (by (try dsimp only); first | omega | exact fun h => h), fr.1 108 1 (by (try dsimp only); first | omega | exact fun h => h)]; exact t1
set_option maxHeartbeats 4000000 in
theorem wq_C_needs (n : Nat) (hn : 4294967297 < n) : wt_C_needs n wt_Inv := by
  intro σ x1 x2 hI
  obtain ⟨q, hq, hc⟩ := wq_ap_needs n hn x1 x2 σ
  obtain ⟨fq, cq⟩ := hc
  have v : wt_IV q.2.2 := by rw [fq]; exact hI.1
  have t1 : (wt_gf q.2.2 1 2).toInt = (wt_gf q.2.2 108 1).toInt := by rw [fq]; exact hI.2
  obtain ⟨r, hr, hm⟩ := wq_md_needs n hn x1 x2 q.2.2 v.1
  obtain ⟨fr, rr⟩ := hm
  refine ⟨q, hq, ?_, r, hr, ?_, ?_⟩
  · omega
  · exact wt_IV_fr v rr fr (by (try dsimp only); first | omega | exact fun h => h) (by (try dsimp only); first | omega | exact fun h => h) (fun i hi => by unfold wt_PA at hi; first | (dsimp only; omega) | omega | exact fun h => h)
  · rw [fr.1 1 2 (by (try dsimp only); first | omega | exact fun h => h), fr.1 108 1 (by (try dsimp only); first | omega | exact fun h => h)]; exact t1
set_option maxHeartbeats 4000000 in
theorem wq_C_habit (n : Nat) (hn : 4294967297 < n) : wt_C_habit n wt_Inv := by
  intro σ x1 hI
  obtain ⟨q, hq, hc⟩ := wq_ap_habit n hn x1 σ
  obtain ⟨fq, cq⟩ := hc
  have v : wt_IV q.2.2 := wt_IV_cls hI.1 fq (fun k => (by (try dsimp only); first | omega | exact fun h => h)) (fun i hi => (by (try dsimp only); first | omega | exact fun h => h))
  have t1 : (wt_gf q.2.2 1 2).toInt = (wt_gf q.2.2 108 1).toInt := by rw [fq.1 1 2 (by (try dsimp only); first | omega | exact fun h => h), fq.1 108 1 (by (try dsimp only); first | omega | exact fun h => h)]; exact hI.2
  obtain ⟨r, hr, hm⟩ := wq_md_habit n hn x1 q.2.2 v.1
  obtain ⟨fr, rr⟩ := hm
  refine ⟨q, hq, ?_, r, hr, ?_, ?_⟩
  · omega
  · exact wt_IV_fr v rr fr (by (try dsimp only); first | omega | exact fun h => h) (by (try dsimp only); first | omega | exact fun h => h) (fun i hi => by unfold wt_PA at hi; first | (dsimp only; omega) | omega | exact fun h => h)
  · rw [fr.1 1 2 (by (try dsimp only); first | omega | exact fun h => h), fr.1 108 1 (by (try dsimp only); first | omega | exact fun h => h)]; exact t1
set_option maxHeartbeats 4000000 in
theorem wq_C_can (n : Nat) (hn : 4294967297 < n) : wt_C_can n wt_Inv := by
  intro σ x1 hI
  obtain ⟨q, hq, hc⟩ := wq_ap_can n hn x1 σ
  obtain ⟨fq, cq⟩ := hc
  have v : wt_IV q.2.2 := wt_IV_cls hI.1 fq (fun k => (by (try dsimp only); first | omega | exact fun h => h)) (fun i hi => (by (try dsimp only); first | omega | exact fun h => h))
  have t1 : (wt_gf q.2.2 1 2).toInt = (wt_gf q.2.2 108 1).toInt := by rw [fq.1 1 2 (by (try dsimp only); first | omega | exact fun h => h), fq.1 108 1 (by (try dsimp only); first | omega | exact fun h => h)]; exact hI.2
  obtain ⟨r, hr, hm⟩ := wq_md_can n hn x1 q.2.2 v.1
  obtain ⟨fr, rr⟩ := hm
  refine ⟨q, hq, ?_, r, hr, ?_, ?_⟩
  · omega
  · exact wt_IV_fr v rr fr (by (try dsimp only); first | omega | exact fun h => h) (by (try dsimp only); first | omega | exact fun h => h) (fun i hi => by unfold wt_PA at hi; first | (dsimp only; omega) | omega | exact fun h => h)
  · rw [fr.1 1 2 (by (try dsimp only); first | omega | exact fun h => h), fr.1 108 1 (by (try dsimp only); first | omega | exact fun h => h)]; exact t1
set_option maxHeartbeats 4000000 in
theorem wq_C_lacks (n : Nat) (hn : 4294967297 < n) : wt_C_lacks n wt_Inv := by
  intro σ x1 x2 hI
  obtain ⟨q, hq, hc⟩ := wq_ap_lacks n hn x1 x2 σ
  obtain ⟨fq, cq⟩ := hc
  have v : wt_IV q.2.2 := wt_IV_cls hI.1 fq (fun k => (by (try dsimp only); first | omega | exact fun h => h)) (fun i hi => (by (try dsimp only); first | omega | exact fun h => h))
  have t1 : (wt_gf q.2.2 1 2).toInt = (wt_gf q.2.2 108 1).toInt := by rw [fq.1 1 2 (by (try dsimp only); first | omega | exact fun h => h), fq.1 108 1 (by (try dsimp only); first | omega | exact fun h => h)]; exact hI.2
  obtain ⟨r, hr, hm⟩ := wq_md_lacks n hn x1 x2 q.2.2 v.1
  obtain ⟨fr, rr⟩ := hm
  refine ⟨q, hq, ?_, r, hr, ?_, ?_⟩
  · omega
  · exact wt_IV_fr v rr fr (by (try dsimp only); first | omega | exact fun h => h) (by (try dsimp only); first | omega | exact fun h => h) (fun i hi => by unfold wt_PA at hi; first | (dsimp only; omega) | omega | exact fun h => h)
  · rw [fr.1 1 2 (by (try dsimp only); first | omega | exact fun h => h), fr.1 108 1 (by (try dsimp only); first | omega | exact fun h => h)]; exact t1
set_option maxHeartbeats 4000000 in
theorem wq_C_print (n : Nat) (hn : 4294967297 < n) : wt_C_print n wt_Inv := by
  intro σ x1 x2 hI
  obtain ⟨q, hq, hc⟩ := wq_ap_print n hn x1 x2 σ
  obtain ⟨fq, cq⟩ := hc
  have v : wt_IV q.2.2 := wt_IV_cls hI.1 fq (fun k => (by (try dsimp only); first | omega | exact fun h => h)) (fun i hi => (by (try dsimp only); first | omega | exact fun h => h))
  have t1 : (wt_gf q.2.2 1 2).toInt = (wt_gf q.2.2 108 1).toInt := by rw [fq.1 1 2 (by (try dsimp only); first | omega | exact fun h => h), fq.1 108 1 (by (try dsimp only); first | omega | exact fun h => h)]; exact hI.2
  obtain ⟨r, hr, hm⟩ := wq_md_print n hn x1 x2 q.2.2 v.1 v.2.2.2.1
  obtain ⟨fr, rr⟩ := hm
  refine ⟨q, hq, ?_, r, hr, ?_, ?_⟩
  · omega
  · exact wt_IV_fr v rr fr (by (try dsimp only); first | omega | exact fun h => h) (by (try dsimp only); first | omega | exact fun h => h) (fun i hi => by unfold wt_PA at hi; first | (dsimp only; omega) | omega | exact fun h => h)
  · rw [fr.1 1 2 (by (try dsimp only); first | omega | exact fun h => h), fr.1 108 1 (by (try dsimp only); first | omega | exact fun h => h)]; exact t1
set_option maxHeartbeats 4000000 in
theorem wq_C_page (n : Nat) (hn : 4294967297 < n) : wt_C_page n wt_Inv := by
  intro σ x1 x2 hI
  obtain ⟨q, hq, hc⟩ := wq_ap_page n hn x1 x2 σ
  obtain ⟨fq, cq⟩ := hc
  have v : wt_IV q.2.2 := wt_IV_cls hI.1 fq (fun k => (by (try dsimp only); first | omega | exact fun h => h)) (fun i hi => (by (try dsimp only); first | omega | exact fun h => h))
  have t1 : (wt_gf q.2.2 1 2).toInt = (wt_gf q.2.2 108 1).toInt := by rw [fq.1 1 2 (by (try dsimp only); first | omega | exact fun h => h), fq.1 108 1 (by (try dsimp only); first | omega | exact fun h => h)]; exact hI.2
  obtain ⟨r, hr, hm⟩ := wq_md_page n hn x1 x2 q.2.2 v.1 v.2.2.1
  obtain ⟨fr, rr⟩ := hm
  refine ⟨q, hq, ?_, r, hr, ?_, ?_⟩
  · omega
  · exact wt_IV_fr v rr fr (by (try dsimp only); first | omega | exact fun h => h) (by (try dsimp only); first | omega | exact fun h => h) (fun i hi => by unfold wt_PA at hi; first | (dsimp only; omega) | omega | exact fun h => h)
  · rw [fr.1 1 2 (by (try dsimp only); first | omega | exact fun h => h), fr.1 108 1 (by (try dsimp only); first | omega | exact fun h => h)]; exact t1
set_option maxHeartbeats 4000000 in
theorem wq_C_read (n : Nat) (hn : 4294967297 < n) : wt_C_read n wt_Inv := by
  intro σ x1 x2 hI
  obtain ⟨q, hq, hc⟩ := wq_ap_read n hn x1 x2 σ
  obtain ⟨fq, cq⟩ := hc
  have v : wt_IV q.2.2 := wt_IV_cls hI.1 fq (fun k => (by (try dsimp only); first | omega | exact fun h => h)) (fun i hi => (by (try dsimp only); first | omega | exact fun h => h))
  have t1 : (wt_gf q.2.2 1 2).toInt = (wt_gf q.2.2 108 1).toInt := by rw [fq.1 1 2 (by (try dsimp only); first | omega | exact fun h => h), fq.1 108 1 (by (try dsimp only); first | omega | exact fun h => h)]; exact hI.2
  obtain ⟨r, hr, hm⟩ := wq_md_read n hn x1 x2 q.2.2 v.1 v.2.2.1
  obtain ⟨fr, rr⟩ := hm
  refine ⟨q, hq, ?_, r, hr, ?_, ?_⟩
  · omega
  · exact wt_IV_fr v rr fr (by (try dsimp only); first | omega | exact fun h => h) (by (try dsimp only); first | omega | exact fun h => h) (fun i hi => by unfold wt_PA at hi; first | (dsimp only; omega) | omega | exact fun h => h)
  · rw [fr.1 1 2 (by (try dsimp only); first | omega | exact fun h => h), fr.1 108 1 (by (try dsimp only); first | omega | exact fun h => h)]; exact t1
set_option maxHeartbeats 4000000 in
theorem wq_C_least (n : Nat) (hn : 4294967297 < n) : wt_C_least n wt_Inv := by
  intro σ x1 x2 x3 hI
  obtain ⟨q, hq, hc⟩ := wq_ap_least n hn x1 x2 x3 σ
  obtain ⟨fq, cq⟩ := hc
  have v : wt_IV q.2.2 := wt_IV_cls hI.1 fq (fun k => (by (try dsimp only); first | omega | exact fun h => h)) (fun i hi => (by (try dsimp only); first | omega | exact fun h => h))
  have t1 : (wt_gf q.2.2 1 2).toInt = (wt_gf q.2.2 108 1).toInt := by rw [fq.1 1 2 (by (try dsimp only); first | omega | exact fun h => h), fq.1 108 1 (by (try dsimp only); first | omega | exact fun h => h)]; exact hI.2
  obtain ⟨r, hr, hm⟩ := wq_md_least n hn x1 x2 x3 q.2.2 v.1
  obtain ⟨fr, rr⟩ := hm
  refine ⟨q, hq, ?_, r, hr, ?_, ?_⟩
  · omega
  · exact wt_IV_fr v rr fr (by (try dsimp only); first | omega | exact fun h => h) (by (try dsimp only); first | omega | exact fun h => h) (fun i hi => by unfold wt_PA at hi; first | (dsimp only; omega) | omega | exact fun h => h)
  · rw [fr.1 1 2 (by (try dsimp only); first | omega | exact fun h => h), fr.1 108 1 (by (try dsimp only); first | omega | exact fun h => h)]; exact t1
set_option maxHeartbeats 4000000 in
theorem wq_C_fitting (n : Nat) (hn : 4294967297 < n) : wt_C_fitting n wt_Inv := by
  intro σ x1 x2 x3 x4 hI
  obtain ⟨q, hq, hc⟩ := wq_ap_fitting n hn x1 x2 x3 x4 σ
  obtain ⟨fq, cq⟩ := hc
  have v : wt_IV q.2.2 := wt_IV_cls hI.1 fq (fun k => (by (try dsimp only); first | omega | exact fun h => h)) (fun i hi => (by (try dsimp only); first | omega | exact fun h => h))
  have t1 : (wt_gf q.2.2 1 2).toInt = (wt_gf q.2.2 108 1).toInt := by rw [fq.1 1 2 (by (try dsimp only); first | omega | exact fun h => h), fq.1 108 1 (by (try dsimp only); first | omega | exact fun h => h)]; exact hI.2
  obtain ⟨r, hr, hm⟩ := wq_md_fitting n hn x1 x2 x3 x4 q.2.2 v.1
  obtain ⟨fr, rr⟩ := hm
  refine ⟨q, hq, ?_, r, hr, ?_, ?_⟩
  · omega
  · exact wt_IV_fr v rr fr (by (try dsimp only); first | omega | exact fun h => h) (by (try dsimp only); first | omega | exact fun h => h) (fun i hi => by unfold wt_PA at hi; first | (dsimp only; omega) | omega | exact fun h => h)
  · rw [fr.1 1 2 (by (try dsimp only); first | omega | exact fun h => h), fr.1 108 1 (by (try dsimp only); first | omega | exact fun h => h)]; exact t1
set_option maxHeartbeats 4000000 in
theorem wq_C_wordings (n : Nat) (hn : 4294967297 < n) : wt_C_wordings n wt_Inv := by
  intro σ x1 hI
  obtain ⟨q, hq, hc⟩ := wq_ap_wordings n hn x1 σ
  obtain ⟨fq, cq⟩ := hc
  have v : wt_IV q.2.2 := wt_IV_cls hI.1 fq (fun k => (by (try dsimp only); first | omega | exact fun h => h)) (fun i hi => (by (try dsimp only); first | omega | exact fun h => h))
  have t1 : (wt_gf q.2.2 1 2).toInt = (wt_gf q.2.2 108 1).toInt := by rw [fq.1 1 2 (by (try dsimp only); first | omega | exact fun h => h), fq.1 108 1 (by (try dsimp only); first | omega | exact fun h => h)]; exact hI.2
  obtain ⟨r, hr, hm⟩ := wq_md_wordings n hn x1 q.2.2 v.1
  obtain ⟨fr, rr⟩ := hm
  refine ⟨q, hq, ?_, r, hr, ?_, ?_⟩
  · omega
  · exact wt_IV_fr v rr fr (by (try dsimp only); first | omega | exact fun h => h) (by (try dsimp only); first | omega | exact fun h => h) (fun i hi => by unfold wt_PA at hi; first | (dsimp only; omega) | omega | exact fun h => h)
  · rw [fr.1 1 2 (by (try dsimp only); first | omega | exact fun h => h), fr.1 108 1 (by (try dsimp only); first | omega | exact fun h => h)]; exact t1
set_option maxHeartbeats 4000000 in
theorem wq_C_want (n : Nat) (hn : 4294967297 < n) : wt_C_want n wt_Inv := by
  intro σ x1 x2 x3 x4 hI
  obtain ⟨q, hq, hc⟩ := wq_ap_want n hn x1 x2 x3 x4 σ
  obtain ⟨fq, cq⟩ := hc
  have v : wt_IV q.2.2 := wt_IV_cls hI.1 fq (fun k => (by (try dsimp only); first | omega | exact fun h => h)) (fun i hi => (by (try dsimp only); first | omega | exact fun h => h))
  have t1 : (wt_gf q.2.2 1 2).toInt = (wt_gf q.2.2 108 1).toInt := by rw [fq.1 1 2 (by (try dsimp only); first | omega | exact fun h => h), fq.1 108 1 (by (try dsimp only); first | omega | exact fun h => h)]; exact hI.2
  obtain ⟨r, hr, hm⟩ := wq_md_want n hn x1 x2 x3 x4 q.2.2 v.1
  obtain ⟨fr, rr⟩ := hm
  refine ⟨q, hq, ?_, r, hr, ?_, ?_⟩
  · omega
  · exact wt_IV_fr v rr fr (by (try dsimp only); first | omega | exact fun h => h) (by (try dsimp only); first | omega | exact fun h => h) (fun i hi => by unfold wt_PA at hi; first | (dsimp only; omega) | omega | exact fun h => h)
  · rw [fr.1 1 2 (by (try dsimp only); first | omega | exact fun h => h), fr.1 108 1 (by (try dsimp only); first | omega | exact fun h => h)]; exact t1
set_option maxHeartbeats 4000000 in
theorem wq_C_forget (n : Nat) (hn : 4294967297 < n) : wt_C_forget n wt_Inv := by
  intro σ hI
  obtain ⟨q, hq, hc⟩ := wq_ap_forget n hn σ
  have fq := hc
  have v : wt_IV q.2 := wt_IV_cls hI.1 fq (fun k => (by (try dsimp only); first | omega | exact fun h => h)) (fun i hi => (by (try dsimp only); first | omega | exact fun h => h))
  have t1 : (wt_gf q.2 1 2).toInt = (wt_gf q.2 108 1).toInt := by rw [fq.1 1 2 (by (try dsimp only); first | omega | exact fun h => h), fq.1 108 1 (by (try dsimp only); first | omega | exact fun h => h)]; exact hI.2
  obtain ⟨r, hr, hm⟩ := wq_md_forget n hn q.2 v.1
  obtain ⟨fr, rr⟩ := hm
  refine ⟨q, hq, r, hr, ?_, ?_⟩
  · exact wt_IV_fr v rr fr (by (try dsimp only); first | omega | exact fun h => h) (by (try dsimp only); first | omega | exact fun h => h) (fun i hi => by unfold wt_PA at hi; first | (dsimp only; omega) | omega | exact fun h => h)
  · rw [fr.1 1 2 (by (try dsimp only); first | omega | exact fun h => h), fr.1 108 1 (by (try dsimp only); first | omega | exact fun h => h)]; exact t1
set_option maxHeartbeats 4000000 in
theorem wq_C_most (n : Nat) (hn : 4294967297 < n) : wt_C_most n wt_Inv := by
  intro σ x1 hI
  obtain ⟨q, hq, hc⟩ := wq_ap_most n hn x1 σ
  obtain ⟨fq, cq⟩ := hc
  have v : wt_IV q.2.2 := wt_IV_cls hI.1 fq (fun k => (by (try dsimp only); first | omega | exact fun h => h)) (fun i hi => (by (try dsimp only); first | omega | exact fun h => h))
  have t1 : (wt_gf q.2.2 1 2).toInt = (wt_gf q.2.2 108 1).toInt := by rw [fq.1 1 2 (by (try dsimp only); first | omega | exact fun h => h), fq.1 108 1 (by (try dsimp only); first | omega | exact fun h => h)]; exact hI.2
  obtain ⟨r, hr, hm⟩ := wq_md_most n hn x1 q.2.2 v.1
  obtain ⟨fr, rr⟩ := hm
  refine ⟨q, hq, ?_, r, hr, ?_, ?_⟩
  · omega
  · exact wt_IV_fr v rr fr (by (try dsimp only); first | omega | exact fun h => h) (by (try dsimp only); first | omega | exact fun h => h) (fun i hi => by unfold wt_PA at hi; first | (dsimp only; omega) | omega | exact fun h => h)
  · rw [fr.1 1 2 (by (try dsimp only); first | omega | exact fun h => h), fr.1 108 1 (by (try dsimp only); first | omega | exact fun h => h)]; exact t1
set_option maxHeartbeats 4000000 in
theorem wq_C_greedy (n : Nat) (hn : 4294967297 < n) : wt_C_greedy n wt_Inv := by
  intro σ x1 hI
  obtain ⟨q, hq, hc⟩ := wq_ap_greedy n hn x1 σ
  obtain ⟨fq, cq⟩ := hc
  have v : wt_IV q.2.2 := wt_IV_cls hI.1 fq (fun k => (by (try dsimp only); first | omega | exact fun h => h)) (fun i hi => (by (try dsimp only); first | omega | exact fun h => h))
  have t1 : (wt_gf q.2.2 1 2).toInt = (wt_gf q.2.2 108 1).toInt := by rw [fq.1 1 2 (by (try dsimp only); first | omega | exact fun h => h), fq.1 108 1 (by (try dsimp only); first | omega | exact fun h => h)]; exact hI.2
  obtain ⟨r, hr, hm⟩ := wq_md_greedy n hn x1 q.2.2 v.1
  obtain ⟨fr, rr⟩ := hm
  refine ⟨q, hq, ?_, r, hr, ?_, ?_⟩
  · omega
  · exact wt_IV_fr v rr fr (by (try dsimp only); first | omega | exact fun h => h) (by (try dsimp only); first | omega | exact fun h => h) (fun i hi => by unfold wt_PA at hi; first | (dsimp only; omega) | omega | exact fun h => h)
  · rw [fr.1 1 2 (by (try dsimp only); first | omega | exact fun h => h), fr.1 108 1 (by (try dsimp only); first | omega | exact fun h => h)]; exact t1
set_option maxHeartbeats 4000000 in
theorem wq_C_bound (n : Nat) (hn : 4294967297 < n) : wt_C_bound n wt_Inv := by
  intro σ hI
  obtain ⟨q, hq, hc⟩ := wq_ap_bound n hn σ
  have fq := hc
  have v : wt_IV q.2 := by rw [fq]; exact hI.1
  have t1 : (wt_gf q.2 1 2).toInt = (wt_gf q.2 108 1).toInt := by rw [fq]; exact hI.2
  obtain ⟨r, hr, hm⟩ := wq_md_bound n hn q.2 v.1
  obtain ⟨fr, rr⟩ := hm
  refine ⟨q, hq, r, hr, ?_, ?_⟩
  · exact wt_IV_fr v rr fr (by (try dsimp only); first | omega | exact fun h => h) (by (try dsimp only); first | omega | exact fun h => h) (fun i hi => by unfold wt_PA at hi; first | (dsimp only; omega) | omega | exact fun h => h)
  · rw [fr.1 1 2 (by (try dsimp only); first | omega | exact fun h => h), fr.1 108 1 (by (try dsimp only); first | omega | exact fun h => h)]; exact t1
set_option maxHeartbeats 4000000 in
theorem wq_C_said (n : Nat) (hn : 4294967297 < n) : wt_C_said n wt_Inv := by
  intro σ x1 x2 hI
  obtain ⟨q, hq, hc⟩ := wq_ap_said n hn x1 x2 σ
  obtain ⟨fq, cq⟩ := hc
  have v : wt_IV q.2.2 := wt_IV_cls hI.1 fq (fun k => (by (try dsimp only); first | omega | exact fun h => h)) (fun i hi => (by (try dsimp only); first | omega | exact fun h => h))
  have t1 : (wt_gf q.2.2 1 2).toInt = (wt_gf q.2.2 108 1).toInt := by rw [fq.1 1 2 (by (try dsimp only); first | omega | exact fun h => h), fq.1 108 1 (by (try dsimp only); first | omega | exact fun h => h)]; exact hI.2
  obtain ⟨r, hr, hm⟩ := wq_md_said n hn x1 x2 q.2.2 v.1
  obtain ⟨fr, rr⟩ := hm
  refine ⟨q, hq, ?_, r, hr, ?_, ?_⟩
  · omega
  · exact wt_IV_fr v rr fr (by (try dsimp only); first | omega | exact fun h => h) (by (try dsimp only); first | omega | exact fun h => h) (fun i hi => by unfold wt_PA at hi; first | (dsimp only; omega) | omega | exact fun h => h)
  · rw [fr.1 1 2 (by (try dsimp only); first | omega | exact fun h => h), fr.1 108 1 (by (try dsimp only); first | omega | exact fun h => h)]; exact t1
set_option maxHeartbeats 4000000 in
theorem wq_C_lost (n : Nat) (hn : 4294967297 < n) : wt_C_lost n wt_Inv := by
  intro σ x1 hI
  obtain ⟨q, hq, hc⟩ := wq_ap_lost n hn x1 σ
  obtain ⟨fq, cq⟩ := hc
  have v : wt_IV q.2.2 := wt_IV_cls hI.1 fq (fun k => (by (try dsimp only); first | omega | exact fun h => h)) (fun i hi => (by (try dsimp only); first | omega | exact fun h => h))
  have t1 : (wt_gf q.2.2 1 2).toInt = (wt_gf q.2.2 108 1).toInt := by rw [fq.1 1 2 (by (try dsimp only); first | omega | exact fun h => h), fq.1 108 1 (by (try dsimp only); first | omega | exact fun h => h)]; exact hI.2
  obtain ⟨r, hr, hm⟩ := wq_md_lost n hn x1 q.2.2 v.1
  obtain ⟨fr, rr⟩ := hm
  refine ⟨q, hq, ?_, r, hr, ?_, ?_⟩
  · omega
  · exact wt_IV_fr v rr fr (by (try dsimp only); first | omega | exact fun h => h) (by (try dsimp only); first | omega | exact fun h => h) (fun i hi => by unfold wt_PA at hi; first | (dsimp only; omega) | omega | exact fun h => h)
  · rw [fr.1 1 2 (by (try dsimp only); first | omega | exact fun h => h), fr.1 108 1 (by (try dsimp only); first | omega | exact fun h => h)]; exact t1
set_option maxHeartbeats 4000000 in
theorem wq_C_ends (n : Nat) (hn : 4294967297 < n) : wt_C_ends n wt_Inv := by
  intro σ x1 hI
  obtain ⟨q, hq, hc⟩ := wq_ap_ends n hn x1 σ
  obtain ⟨fq, cq⟩ := hc
  have v : wt_IV q.2.2 := wt_IV_cls hI.1 fq (fun k => (by (try dsimp only); first | omega | exact fun h => h)) (fun i hi => (by (try dsimp only); first | omega | exact fun h => h))
  have t1 : (wt_gf q.2.2 1 2).toInt = (wt_gf q.2.2 108 1).toInt := by rw [fq.1 1 2 (by (try dsimp only); first | omega | exact fun h => h), fq.1 108 1 (by (try dsimp only); first | omega | exact fun h => h)]; exact hI.2
  obtain ⟨r, hr, hm⟩ := wq_md_ends n hn x1 q.2.2 v.1
  obtain ⟨fr, rr⟩ := hm
  refine ⟨q, hq, ?_, r, hr, ?_, ?_⟩
  · omega
  · exact wt_IV_fr v rr fr (by (try dsimp only); first | omega | exact fun h => h) (by (try dsimp only); first | omega | exact fun h => h) (fun i hi => by unfold wt_PA at hi; first | (dsimp only; omega) | omega | exact fun h => h)
  · rw [fr.1 1 2 (by (try dsimp only); first | omega | exact fun h => h), fr.1 108 1 (by (try dsimp only); first | omega | exact fun h => h)]; exact t1
set_option maxHeartbeats 4000000 in
theorem wq_C_together (n : Nat) (hn : 4294967297 < n) : wt_C_together n wt_Inv := by
  intro σ x1 hI
  obtain ⟨q, hq, hc⟩ := wq_ap_together n hn x1 σ
  obtain ⟨fq, cq⟩ := hc
  have v : wt_IV q.2.2 := wt_IV_cls hI.1 fq (fun k => (by (try dsimp only); first | omega | exact fun h => h)) (fun i hi => (by (try dsimp only); first | omega | exact fun h => h))
  have t1 : (wt_gf q.2.2 1 2).toInt = (wt_gf q.2.2 108 1).toInt := by rw [fq.1 1 2 (by (try dsimp only); first | omega | exact fun h => h), fq.1 108 1 (by (try dsimp only); first | omega | exact fun h => h)]; exact hI.2
  obtain ⟨r, hr, hm⟩ := wq_md_together n hn x1 q.2.2 v.1
  obtain ⟨fr, rr⟩ := hm
  refine ⟨q, hq, ?_, r, hr, ?_, ?_⟩
  · omega
  · exact wt_IV_fr v rr fr (by (try dsimp only); first | omega | exact fun h => h) (by (try dsimp only); first | omega | exact fun h => h) (fun i hi => by unfold wt_PA at hi; first | (dsimp only; omega) | omega | exact fun h => h)
  · rw [fr.1 1 2 (by (try dsimp only); first | omega | exact fun h => h), fr.1 108 1 (by (try dsimp only); first | omega | exact fun h => h)]; exact t1
set_option maxHeartbeats 4000000 in
theorem wq_C_count (n : Nat) (hn : 4294967297 < n) : wt_C_count n wt_Inv := by
  intro σ x1 hI
  obtain ⟨q, hq, hc⟩ := wq_ap_count n hn x1 σ
  have fq := hc
  have v : wt_IV q.2 := by rw [fq]; exact hI.1
  have t1 : (wt_gf q.2 1 2).toInt = (wt_gf q.2 108 1).toInt := by rw [fq]; exact hI.2
  obtain ⟨r, hr, hm⟩ := wq_md_count n hn x1 q.2 v.1
  obtain ⟨fr, rr⟩ := hm
  refine ⟨q, hq, r, hr, ?_, ?_⟩
  · exact wt_IV_fr v rr fr (by (try dsimp only); first | omega | exact fun h => h) (by (try dsimp only); first | omega | exact fun h => h) (fun i hi => by unfold wt_PA at hi; first | (dsimp only; omega) | omega | exact fun h => h)
  · rw [fr.1 1 2 (by (try dsimp only); first | omega | exact fun h => h), fr.1 108 1 (by (try dsimp only); first | omega | exact fun h => h)]; exact t1
set_option maxHeartbeats 4000000 in
theorem wq_C_cast (n : Nat) (hn : 4294967297 < n) : wt_C_cast n wt_Inv := by
  intro σ x1 x2 hI
  obtain ⟨q, hq, hc⟩ := wq_ap_cast n hn x1 x2 σ
  obtain ⟨fq, cq⟩ := hc
  have v : wt_IV q.2.2 := wt_IV_cls hI.1 fq (fun k => (by (try dsimp only); first | omega | exact fun h => h)) (fun i hi => (by (try dsimp only); first | omega | exact fun h => h))
  have t1 : (wt_gf q.2.2 1 2).toInt = (wt_gf q.2.2 108 1).toInt := by rw [fq.1 1 2 (by (try dsimp only); first | omega | exact fun h => h), fq.1 108 1 (by (try dsimp only); first | omega | exact fun h => h)]; exact hI.2
  obtain ⟨r, hr, hm⟩ := wq_md_cast n hn x1 x2 q.2.2 v.1 v.2.1
  obtain ⟨fr, rr, mm⟩ := hm
  refine ⟨q, hq, ?_, r, hr, ?_, ?_⟩
  · omega
  · exact wt_IV_m v rr mm fr (by (try dsimp only); first | omega | exact fun h => h) (by (try dsimp only); first | omega | exact fun h => h) (fun i hi => by unfold wt_PA at hi; (try dsimp only); omega)
  · rw [fr.1 1 2 (by (try dsimp only); first | omega | exact fun h => h), fr.1 108 1 (by (try dsimp only); first | omega | exact fun h => h)]; exact t1
set_option maxHeartbeats 4000000 in
theorem wq_C_exchange (n : Nat) (hn : 4294967297 < n) : wt_C_exchange n wt_Inv := by
  intro σ x1 hI
  obtain ⟨q, hq, hc⟩ := wq_ap_exchange n hn x1 σ
  obtain ⟨fq, cq⟩ := hc
  have v : wt_IV q.2.2 := wt_IV_cls hI.1 fq (fun k => (by (try dsimp only); first | omega | exact fun h => h)) (fun i hi => (by (try dsimp only); first | omega | exact fun h => h))
  have t1 : (wt_gf q.2.2 1 2).toInt = (wt_gf q.2.2 108 1).toInt := by rw [fq.1 1 2 (by (try dsimp only); first | omega | exact fun h => h), fq.1 108 1 (by (try dsimp only); first | omega | exact fun h => h)]; exact hI.2
  obtain ⟨r, hr, hm⟩ := wq_md_exchange n hn x1 q.2.2 v.1 v.2.1
  obtain ⟨fr, rr, mm⟩ := hm
  refine ⟨q, hq, ?_, r, hr, ?_, ?_⟩
  · omega
  · exact wt_IV_m v rr mm fr (by (try dsimp only); first | omega | exact fun h => h) (by (try dsimp only); first | omega | exact fun h => h) (fun i hi => by unfold wt_PA at hi; (try dsimp only); omega)
  · rw [fr.1 1 2 (by (try dsimp only); first | omega | exact fun h => h), fr.1 108 1 (by (try dsimp only); first | omega | exact fun h => h)]; exact t1
set_option maxHeartbeats 4000000 in
theorem wq_C_image (n : Nat) (hn : 4294967297 < n) : wt_C_image n wt_Inv := by
  intro σ hI
  obtain ⟨q, hq, fq⟩ := wq_ap_image n hn σ
  have v : wt_IV q.2 := wt_IV_cls hI.1 fq (fun k => (by (try dsimp only); first | omega | exact fun h => h)) (fun i hi => (by (try dsimp only); first | omega | exact fun h => h))
  have t1 : (wt_gf q.2 1 2).toInt = (wt_gf q.2 108 1).toInt := by rw [fq.1 1 2 (by (try dsimp only); first | omega | exact fun h => h), fq.1 108 1 (by (try dsimp only); first | omega | exact fun h => h)]; exact hI.2
  obtain ⟨r, hr, vr, er⟩ := wq_md_image n hn q.2 v
  refine ⟨q, hq, r, hr, vr, ?_⟩
  rw [er 1 2 (Or.inr ⟨rfl, rfl⟩), er 108 1 (Or.inl ⟨rfl, rfl⟩)]
  exact t1
set_option maxHeartbeats 4000000 in
theorem wq_C_restore (n : Nat) (hn : 4294967297 < n) : wt_C_restore n wt_Inv := by
  intro σ hI
  obtain ⟨q, hq, fq⟩ := wq_ap_restore n hn σ
  have v : wt_IV q.2 := wt_IV_cls hI.1 fq (fun k => (by (try dsimp only); first | omega | exact fun h => h)) (fun i hi => (by (try dsimp only); first | omega | exact fun h => h))
  have t1 : (wt_gf q.2 1 2).toInt = (wt_gf q.2 108 1).toInt := by rw [fq.1 1 2 (by (try dsimp only); first | omega | exact fun h => h), fq.1 108 1 (by (try dsimp only); first | omega | exact fun h => h)]; exact hI.2
  obtain ⟨r, hr, vr, er⟩ := wq_md_restore n hn q.2 v
  refine ⟨q, hq, r, hr, vr, ?_⟩
  rw [er 1 2 (Or.inr ⟨rfl, rfl⟩), er 108 1 (Or.inl ⟨rfl, rfl⟩)]
  exact t1
set_option maxHeartbeats 4000000 in
theorem wq_C_feed (n : Nat) (hn : 4294967297 < n) : wt_C_feed n wt_Inv := by
  intro σ x1 x2 x3 x4 x5 hI
  obtain ⟨q, hq, fq, cq⟩ := wq_ap_feed n hn x1 x2 x3 x4 x5 σ
  have v : wt_IV q.2 := wt_IV_cls hI.1 fq (fun k => (by (try dsimp only); first | omega | exact fun h => h)) (fun i hi => (by (try dsimp only); first | omega | exact fun h => h))
  have e1 : (wt_gf q.2 108 1).toInt = (wt_gf σ 108 1).toInt := by rw [fq.1 108 1 (by (try dsimp only); first | omega | exact fun h => h)]
  have g1 : 0 ≤ (wt_gf σ 108 1).toInt ∧ (wt_gf σ 108 1).toInt ≤ 500 := wt_R_gf hI.1.1 0 rfl
  have hI2 := hI.2
  obtain ⟨r, hr, fr, rr, pr⟩ := wq_md_feed n hn x1 x2 x3 x4 x5 q.2 v.1
  have e2 : (wt_gf r.2 1 2).toInt = (wt_gf q.2 1 2).toInt := by rw [fr.1 1 2 (by (try dsimp only); first | omega | exact fun h => h)]
  have cq2 := cq (by omega)
  refine ⟨q, hq, r, hr, wt_IV_fr v rr fr (by (try dsimp only); first | omega | exact fun h => h) (by (try dsimp only); first | omega | exact fun h => h) (fun i hi => by unfold wt_PA at hi; first | (dsimp only; omega) | omega | exact fun h => h), by omega⟩
set_option maxHeartbeats 4000000 in
theorem wq_C_apart (n : Nat) (hn : 4294967297 < n) : wt_C_apart n wt_Inv := by
  intro σ x1 hI
  obtain ⟨q, hq, fq, cq⟩ := wq_ap_apart n hn x1 σ
  have v : wt_IV q.2.2 := wt_IV_cls hI.1 fq (fun k h => h) (fun i hi => by (try dsimp only); omega)
  have t1 : (wt_gf q.2.2 1 2).toInt = (wt_gf q.2.2 108 1).toInt := by rw [fq.1 1 2 (fun h => h), fq.1 108 1 (fun h => h)]; exact hI.2
  obtain ⟨r, hr, vr, er⟩ := wq_md_apartP n hn x1 q.2.2 v
  refine ⟨q, hq, cq, r, hr, vr, ?_⟩
  rw [er 1 2 (Or.inr ⟨rfl, rfl⟩), er 108 1 (Or.inl ⟨rfl, rfl⟩)]
  exact t1
set_option maxHeartbeats 4000000 in
theorem wq_C_kase (n : Nat) (hn : 4294967297 < n) : wt_C_kase n wt_Inv := by
  intro σ x1 hI
  obtain ⟨q, hq, fq, cq, t1, t2⟩ := wq_ap_kase n hn x1 σ
  have v : wt_IV q.2.2 := wt_IV_cls hI.1 fq (fun k => (by (try dsimp only); first | omega | exact fun h => h)) (fun i hi => (by (try dsimp only); first | omega | exact fun h => h))
  have e1 : wt_gf q.2.2 108 1 = wt_gf σ 108 1 := fq.1 108 1 (by (try dsimp only); omega)
  obtain ⟨r, hr, ⟨fr, rr, mr, u1, u2⟩, x41, x275⟩ := (wq_md_kase n hn x1 q.2.2 v.1 v.2.1).and (wq_md_kaseH n hn x1 q.2.2 v.1 v.2.1)
  have e2 : wt_gf r.2 1 2 = wt_gf q.2.2 1 2 := fr.1 1 2 (by (try dsimp only); omega)
  have hI2 := hI.2
  refine ⟨q, hq, cq, r, hr, wt_IV_5 v rr mr fr (by (try dsimp only); omega) x41 x275 (fun i hi h => by unfold wt_TA at hi; (try dsimp only at h); omega), ?_⟩
  rw [e2]
  rw [e1] at u1 u2
  by_cases hx : 0 ≤ x1.toInt ∧ x1.toInt ≤ (wt_gf σ 1 2).toInt
  · rw [t2 hx, u2 (by omega)]
  · rw [t1 (by omega), u1 (by omega)]; exact hI2
set_option maxHeartbeats 4000000 in
theorem wq_C_text (n : Nat) (hn : 4294967297 < n) : wt_C_text n wt_Inv := by
  intro σ x1 hI
  obtain ⟨q, hq, fq, cq, t1, t2⟩ := wq_ap_text n hn x1 σ
  have v : wt_IV q.2.2 := wt_IV_cls hI.1 fq (fun k => (by (try dsimp only); first | omega | exact fun h => h)) (fun i hi => (by (try dsimp only); first | omega | exact fun h => h))
  have e1 : wt_gf q.2.2 108 1 = wt_gf σ 108 1 := fq.1 108 1 (by (try dsimp only); omega)
  obtain ⟨r, hr, ⟨fr, rr, u1, u2⟩, xr⟩ := (wq_md_text n hn x1 q.2.2 v.1).and (wq_md_textH n hn x1 q.2.2 v.1)
  have e2 : wt_gf r.2 1 2 = wt_gf q.2.2 1 2 := fr.1 1 2 (by (try dsimp only); omega)
  have hI2 := hI.2
  refine ⟨q, hq, cq, r, hr, wt_IV_x v rr fr xr (by (try dsimp only); omega) (fun i hi h => by (try dsimp only at h); omega), ?_⟩
  rw [e2]
  rw [e1] at u1 u2
  by_cases hx : 0 ≤ x1.toInt ∧ x1.toInt ≤ (wt_gf σ 1 2).toInt ∧ x1.toInt ≤ 200
  · rw [t2 hx, u2 (by omega)]
  · rw [t1 (by omega), u1 (by omega)]; exact hI2
set_option maxHeartbeats 4000000 in
theorem wq_C_tongue (n : Nat) (hn : 4294967297 < n) : wt_C_tongue n wt_Inv := by
  intro σ x1 hI
  obtain ⟨q, hq, fq, cq, t1, t2⟩ := wq_ap_tongue n hn x1 σ
  have v : wt_IV q.2.2 := wt_IV_cls hI.1 fq (fun k => (by (try dsimp only); first | omega | exact fun h => h)) (fun i hi => (by (try dsimp only); first | omega | exact fun h => h))
  have e1 : wt_gf q.2.2 108 1 = wt_gf σ 108 1 := fq.1 108 1 (by (try dsimp only); omega)
  obtain ⟨r, hr, ⟨fr, rr, u1, u2⟩, xr⟩ := (wq_md_tongue n hn x1 q.2.2 v.1).and (wq_md_tongueH n hn x1 q.2.2 v.1)
  have e2 : wt_gf r.2 1 2 = wt_gf q.2.2 1 2 := fr.1 1 2 (by (try dsimp only); omega)
  have hI2 := hI.2
  refine ⟨q, hq, cq, r, hr, wt_IV_g v rr fr xr (fun i hi h => by (try dsimp only at h); omega), ?_⟩
  rw [e2]
  rw [e1] at u1 u2
  by_cases hx : 0 ≤ x1.toInt ∧ x1.toInt ≤ (wt_gf σ 1 2).toInt
  · rw [t2 hx, u2 (by omega)]
  · rw [t1 (by omega), u1 (by omega)]; exact hI2
set_option maxHeartbeats 4000000 in
theorem wq_C_set (n : Nat) (hn : 4294967297 < n) : wt_C_set n wt_Inv := by
  intro σ x1 x2 hI
  obtain ⟨q, hq, fq, cq⟩ := wq_ap_set n hn x1 x2 σ
  have v : wt_IV q.2.2 := wt_IV_cls hI.1 fq (fun k => (by (try dsimp only); first | omega | exact fun h => h)) (fun i hi => (by (try dsimp only); first | omega | exact fun h => h))
  have e1 : wt_gf q.2.2 108 1 = wt_gf σ 108 1 := fq.1 108 1 (fun h => h)
  have e3 : wt_gf q.2.2 1 2 = wt_gf σ 1 2 := fq.1 1 2 (fun h => h)
  obtain ⟨r, hr, ⟨fr, rr⟩, xg, xd⟩ := (wq_md_set n hn x1 x2 q.2.2 v.1).and (wq_md_setH n hn x1 x2 q.2.2 v)
  have e2 : wt_gf r.2 1 2 = wt_gf q.2.2 1 2 := fr.1 1 2 (by (try dsimp only); omega)
  have e4 : wt_gf r.2 108 1 = wt_gf q.2.2 108 1 := fr.1 108 1 (by (try dsimp only); omega)
  have g41 : 0 ≤ (wt_gf q.2.2 108 41).toInt ∧ (wt_gf q.2.2 108 41).toInt ≤ 3 := wt_R_gf v.1 9 rfl
  refine ⟨q, hq, by omega, r, hr, ⟨rr, wt_M_fr v.2.1 fr (by (try dsimp only); omega), xg, xd, fun i hi => ?_⟩, ?_⟩
  · rw [fr.1 108 41 (by (try dsimp only); omega)] at hi
    exact wt_KK_eq v.1 (v.2.2.2.2 i hi) (fr.1 108 39 (by (try dsimp only); omega)) (fun j hj => fr.2 j (by unfold wt_TA at hj; (try dsimp only); omega)) (fr.2 _ (by (try dsimp only); omega))
  · rw [e2, e4, e1, e3]; exact hI.2
